/-! WHAT STANDS AT EVERY PLACE, ON -/
theorem k258 : pm_k 258 = 12 := by decide +kernel
theorem ml258 : pm_ml 258 = 3 := by decide +kernel
theorem rt258 : pm_rt 258 = (some .boolean) := by decide +kernel
theorem hh258 : pm_hh 258 = [] := by decide +kernel
theorem rc258 : pm_cl 12 = (pm_y 258).cls := by decide +kernel
theorem cl258_0 : ([(0, .aload_n 0, 1), (1, .getfield 65, 4), (4, .iconst 0, 5), (5, .iload_n 1, 6), (6, .iadd, 7), (7, .iaload, 8), (8, .iconst 1, 9), (9, .if_icmp .ne 21, 12), (12, .aload_n 0, 13), (13, .iload_n 2, 14), (14, .invokevirtual 377, 17), (17, .aload_n 0, 18), (18, .getfield 32, 21), (21, .iconst 3, 22), (22, .iload_n 2, 23), (23, .imul, 24), (24, .iconst 2, 25), (25, .iadd, 26), (26, .iaload, 27), (27, .if_icmp .lt 5, 30), (30, .iconst 0, 31), (31, .ireturn, 32), (32, .aload_n 0, 33), (33, .getfield 65, 36), (36, .iconst 0, 37), (37, .iload_n 1, 38), (38, .iadd, 39), (39, .iconst 2, 40), (40, .iastore, 41), (41, .aload_n 0, 42), (42, .getfield 65, 45), (45, .bipush 8, 47), (47, .iload_n 1, 48), (48, .iadd, 49), (49, .iload_n 2, 50), (50, .iastore, 51), (51, .aload_n 0, 52), (52, .getfield 65, 55), (55, .bipush 16, 57), (57, .iload_n 1, 58)] : List (Nat × Instr × Nat)).all (fun q => decide (pm_code 258 q.1 = some q.2)) = true := by decide +kernel
theorem c258_0 : pm_code 258 0 = some (.aload_n 0, 1) := pm_of cl258_0 0 (q := (0, .aload_n 0, 1)) rfl
theorem c258_1 : pm_code 258 1 = some (.getfield 65, 4) := pm_of cl258_0 1 (q := (1, .getfield 65, 4)) rfl
theorem c258_4 : pm_code 258 4 = some (.iconst 0, 5) := pm_of cl258_0 2 (q := (4, .iconst 0, 5)) rfl
theorem c258_5 : pm_code 258 5 = some (.iload_n 1, 6) := pm_of cl258_0 3 (q := (5, .iload_n 1, 6)) rfl
theorem c258_6 : pm_code 258 6 = some (.iadd, 7) := pm_of cl258_0 4 (q := (6, .iadd, 7)) rfl
theorem c258_7 : pm_code 258 7 = some (.iaload, 8) := pm_of cl258_0 5 (q := (7, .iaload, 8)) rfl
theorem c258_8 : pm_code 258 8 = some (.iconst 1, 9) := pm_of cl258_0 6 (q := (8, .iconst 1, 9)) rfl
theorem c258_9 : pm_code 258 9 = some (.if_icmp .ne 21, 12) := pm_of cl258_0 7 (q := (9, .if_icmp .ne 21, 12)) rfl
theorem c258_12 : pm_code 258 12 = some (.aload_n 0, 13) := pm_of cl258_0 8 (q := (12, .aload_n 0, 13)) rfl
theorem c258_13 : pm_code 258 13 = some (.iload_n 2, 14) := pm_of cl258_0 9 (q := (13, .iload_n 2, 14)) rfl
theorem c258_14 : pm_code 258 14 = some (.invokevirtual 377, 17) := pm_of cl258_0 10 (q := (14, .invokevirtual 377, 17)) rfl
theorem c258_17 : pm_code 258 17 = some (.aload_n 0, 18) := pm_of cl258_0 11 (q := (17, .aload_n 0, 18)) rfl
theorem c258_18 : pm_code 258 18 = some (.getfield 32, 21) := pm_of cl258_0 12 (q := (18, .getfield 32, 21)) rfl
theorem c258_21 : pm_code 258 21 = some (.iconst 3, 22) := pm_of cl258_0 13 (q := (21, .iconst 3, 22)) rfl
theorem c258_22 : pm_code 258 22 = some (.iload_n 2, 23) := pm_of cl258_0 14 (q := (22, .iload_n 2, 23)) rfl
theorem c258_23 : pm_code 258 23 = some (.imul, 24) := pm_of cl258_0 15 (q := (23, .imul, 24)) rfl
theorem c258_24 : pm_code 258 24 = some (.iconst 2, 25) := pm_of cl258_0 16 (q := (24, .iconst 2, 25)) rfl
theorem c258_25 : pm_code 258 25 = some (.iadd, 26) := pm_of cl258_0 17 (q := (25, .iadd, 26)) rfl
theorem c258_26 : pm_code 258 26 = some (.iaload, 27) := pm_of cl258_0 18 (q := (26, .iaload, 27)) rfl
theorem c258_27 : pm_code 258 27 = some (.if_icmp .lt 5, 30) := pm_of cl258_0 19 (q := (27, .if_icmp .lt 5, 30)) rfl
theorem c258_30 : pm_code 258 30 = some (.iconst 0, 31) := pm_of cl258_0 20 (q := (30, .iconst 0, 31)) rfl
theorem c258_31 : pm_code 258 31 = some (.ireturn, 32) := pm_of cl258_0 21 (q := (31, .ireturn, 32)) rfl
theorem c258_32 : pm_code 258 32 = some (.aload_n 0, 33) := pm_of cl258_0 22 (q := (32, .aload_n 0, 33)) rfl
theorem c258_33 : pm_code 258 33 = some (.getfield 65, 36) := pm_of cl258_0 23 (q := (33, .getfield 65, 36)) rfl
theorem c258_36 : pm_code 258 36 = some (.iconst 0, 37) := pm_of cl258_0 24 (q := (36, .iconst 0, 37)) rfl
theorem c258_37 : pm_code 258 37 = some (.iload_n 1, 38) := pm_of cl258_0 25 (q := (37, .iload_n 1, 38)) rfl
theorem c258_38 : pm_code 258 38 = some (.iadd, 39) := pm_of cl258_0 26 (q := (38, .iadd, 39)) rfl
theorem c258_39 : pm_code 258 39 = some (.iconst 2, 40) := pm_of cl258_0 27 (q := (39, .iconst 2, 40)) rfl
theorem c258_40 : pm_code 258 40 = some (.iastore, 41) := pm_of cl258_0 28 (q := (40, .iastore, 41)) rfl
theorem c258_41 : pm_code 258 41 = some (.aload_n 0, 42) := pm_of cl258_0 29 (q := (41, .aload_n 0, 42)) rfl
theorem c258_42 : pm_code 258 42 = some (.getfield 65, 45) := pm_of cl258_0 30 (q := (42, .getfield 65, 45)) rfl
theorem c258_45 : pm_code 258 45 = some (.bipush 8, 47) := pm_of cl258_0 31 (q := (45, .bipush 8, 47)) rfl
theorem c258_47 : pm_code 258 47 = some (.iload_n 1, 48) := pm_of cl258_0 32 (q := (47, .iload_n 1, 48)) rfl
theorem c258_48 : pm_code 258 48 = some (.iadd, 49) := pm_of cl258_0 33 (q := (48, .iadd, 49)) rfl
theorem c258_49 : pm_code 258 49 = some (.iload_n 2, 50) := pm_of cl258_0 34 (q := (49, .iload_n 2, 50)) rfl
theorem c258_50 : pm_code 258 50 = some (.iastore, 51) := pm_of cl258_0 35 (q := (50, .iastore, 51)) rfl
theorem c258_51 : pm_code 258 51 = some (.aload_n 0, 52) := pm_of cl258_0 36 (q := (51, .aload_n 0, 52)) rfl
theorem c258_52 : pm_code 258 52 = some (.getfield 65, 55) := pm_of cl258_0 37 (q := (52, .getfield 65, 55)) rfl
theorem c258_55 : pm_code 258 55 = some (.bipush 16, 57) := pm_of cl258_0 38 (q := (55, .bipush 16, 57)) rfl
theorem c258_57 : pm_code 258 57 = some (.iload_n 1, 58) := pm_of cl258_0 39 (q := (57, .iload_n 1, 58)) rfl
theorem cl258_1 : ([(58, .iadd, 59), (59, .iconst 0, 60), (60, .iastore, 61), (61, .aload_n 0, 62), (62, .getfield 65, 65), (65, .bipush 48, 67), (67, .iload_n 1, 68), (68, .iadd, 69), (69, .aload_n 0, 70), (70, .getfield 65, 73), (73, .bipush 64, 75), (75, .iaload, 76), (76, .iastore, 77), (77, .iconst 1, 78), (78, .ireturn, 79)] : List (Nat × Instr × Nat)).all (fun q => decide (pm_code 258 q.1 = some q.2)) = true := by decide +kernel
theorem c258_58 : pm_code 258 58 = some (.iadd, 59) := pm_of cl258_1 0 (q := (58, .iadd, 59)) rfl
theorem c258_59 : pm_code 258 59 = some (.iconst 0, 60) := pm_of cl258_1 1 (q := (59, .iconst 0, 60)) rfl
theorem c258_60 : pm_code 258 60 = some (.iastore, 61) := pm_of cl258_1 2 (q := (60, .iastore, 61)) rfl
theorem c258_61 : pm_code 258 61 = some (.aload_n 0, 62) := pm_of cl258_1 3 (q := (61, .aload_n 0, 62)) rfl
theorem c258_62 : pm_code 258 62 = some (.getfield 65, 65) := pm_of cl258_1 4 (q := (62, .getfield 65, 65)) rfl
theorem c258_65 : pm_code 258 65 = some (.bipush 48, 67) := pm_of cl258_1 5 (q := (65, .bipush 48, 67)) rfl
theorem c258_67 : pm_code 258 67 = some (.iload_n 1, 68) := pm_of cl258_1 6 (q := (67, .iload_n 1, 68)) rfl
theorem c258_68 : pm_code 258 68 = some (.iadd, 69) := pm_of cl258_1 7 (q := (68, .iadd, 69)) rfl
theorem c258_69 : pm_code 258 69 = some (.aload_n 0, 70) := pm_of cl258_1 8 (q := (69, .aload_n 0, 70)) rfl
theorem c258_70 : pm_code 258 70 = some (.getfield 65, 73) := pm_of cl258_1 9 (q := (70, .getfield 65, 73)) rfl
theorem c258_73 : pm_code 258 73 = some (.bipush 64, 75) := pm_of cl258_1 10 (q := (73, .bipush 64, 75)) rfl
theorem c258_75 : pm_code 258 75 = some (.iaload, 76) := pm_of cl258_1 11 (q := (75, .iaload, 76)) rfl
theorem c258_76 : pm_code 258 76 = some (.iastore, 77) := pm_of cl258_1 12 (q := (76, .iastore, 77)) rfl
theorem c258_77 : pm_code 258 77 = some (.iconst 1, 78) := pm_of cl258_1 13 (q := (77, .iconst 1, 78)) rfl
theorem c258_78 : pm_code 258 78 = some (.ireturn, 79) := pm_of cl258_1 14 (q := (78, .ireturn, 79)) rfl
theorem k259 : pm_k 259 = 12 := by decide +kernel
theorem ml259 : pm_ml 259 = 4 := by decide +kernel
theorem rt259 : pm_rt 259 = (some .int) := by decide +kernel
theorem hh259 : pm_hh 259 = [] := by decide +kernel
theorem rc259 : pm_cl 12 = (pm_y 259).cls := by decide +kernel
theorem cl259_0 : ([(0, .iconst 0, 1), (1, .istore_n 2, 2), (2, .iconst 0, 3), (3, .istore_n 3, 4), (4, .iload_n 3, 5), (5, .aload_n 0, 6), (6, .getfield 169, 9), (9, .if_icmp .ge 42, 12), (12, .iload_n 2, 13), (13, .aload_n 0, 14), (14, .getfield 65, 17), (17, .iconst 0, 18), (18, .iload_n 3, 19), (19, .iadd, 20), (20, .iaload, 21), (21, .iconst 2, 22), (22, .if_icmp .ne 20, 25), (25, .aload_n 0, 26), (26, .getfield 65, 29), (29, .bipush 8, 31), (31, .iload_n 3, 32), (32, .iadd, 33), (33, .iaload, 34), (34, .iload_n 1, 35), (35, .if_icmp .ne 7, 38), (38, .iconst 1, 39), (39, .goto 4, 42), (42, .iconst 0, 43), (43, .iadd, 44), (44, .istore_n 2, 45), (45, .iinc 3 1, 48), (48, .goto (-44), 51), (51, .iload_n 2, 52), (52, .ireturn, 53)] : List (Nat × Instr × Nat)).all (fun q => decide (pm_code 259 q.1 = some q.2)) = true := by decide +kernel
theorem c259_0 : pm_code 259 0 = some (.iconst 0, 1) := pm_of cl259_0 0 (q := (0, .iconst 0, 1)) rfl
theorem c259_1 : pm_code 259 1 = some (.istore_n 2, 2) := pm_of cl259_0 1 (q := (1, .istore_n 2, 2)) rfl
theorem c259_2 : pm_code 259 2 = some (.iconst 0, 3) := pm_of cl259_0 2 (q := (2, .iconst 0, 3)) rfl
theorem c259_3 : pm_code 259 3 = some (.istore_n 3, 4) := pm_of cl259_0 3 (q := (3, .istore_n 3, 4)) rfl
theorem c259_4 : pm_code 259 4 = some (.iload_n 3, 5) := pm_of cl259_0 4 (q := (4, .iload_n 3, 5)) rfl
theorem c259_5 : pm_code 259 5 = some (.aload_n 0, 6) := pm_of cl259_0 5 (q := (5, .aload_n 0, 6)) rfl
theorem c259_6 : pm_code 259 6 = some (.getfield 169, 9) := pm_of cl259_0 6 (q := (6, .getfield 169, 9)) rfl
theorem c259_9 : pm_code 259 9 = some (.if_icmp .ge 42, 12) := pm_of cl259_0 7 (q := (9, .if_icmp .ge 42, 12)) rfl
theorem c259_12 : pm_code 259 12 = some (.iload_n 2, 13) := pm_of cl259_0 8 (q := (12, .iload_n 2, 13)) rfl
theorem c259_13 : pm_code 259 13 = some (.aload_n 0, 14) := pm_of cl259_0 9 (q := (13, .aload_n 0, 14)) rfl
theorem c259_14 : pm_code 259 14 = some (.getfield 65, 17) := pm_of cl259_0 10 (q := (14, .getfield 65, 17)) rfl
theorem c259_17 : pm_code 259 17 = some (.iconst 0, 18) := pm_of cl259_0 11 (q := (17, .iconst 0, 18)) rfl
theorem c259_18 : pm_code 259 18 = some (.iload_n 3, 19) := pm_of cl259_0 12 (q := (18, .iload_n 3, 19)) rfl
theorem c259_19 : pm_code 259 19 = some (.iadd, 20) := pm_of cl259_0 13 (q := (19, .iadd, 20)) rfl
theorem c259_20 : pm_code 259 20 = some (.iaload, 21) := pm_of cl259_0 14 (q := (20, .iaload, 21)) rfl
theorem c259_21 : pm_code 259 21 = some (.iconst 2, 22) := pm_of cl259_0 15 (q := (21, .iconst 2, 22)) rfl
theorem c259_22 : pm_code 259 22 = some (.if_icmp .ne 20, 25) := pm_of cl259_0 16 (q := (22, .if_icmp .ne 20, 25)) rfl
theorem c259_25 : pm_code 259 25 = some (.aload_n 0, 26) := pm_of cl259_0 17 (q := (25, .aload_n 0, 26)) rfl
theorem c259_26 : pm_code 259 26 = some (.getfield 65, 29) := pm_of cl259_0 18 (q := (26, .getfield 65, 29)) rfl
theorem c259_29 : pm_code 259 29 = some (.bipush 8, 31) := pm_of cl259_0 19 (q := (29, .bipush 8, 31)) rfl
theorem c259_31 : pm_code 259 31 = some (.iload_n 3, 32) := pm_of cl259_0 20 (q := (31, .iload_n 3, 32)) rfl
theorem c259_32 : pm_code 259 32 = some (.iadd, 33) := pm_of cl259_0 21 (q := (32, .iadd, 33)) rfl
theorem c259_33 : pm_code 259 33 = some (.iaload, 34) := pm_of cl259_0 22 (q := (33, .iaload, 34)) rfl
theorem c259_34 : pm_code 259 34 = some (.iload_n 1, 35) := pm_of cl259_0 23 (q := (34, .iload_n 1, 35)) rfl
theorem c259_35 : pm_code 259 35 = some (.if_icmp .ne 7, 38) := pm_of cl259_0 24 (q := (35, .if_icmp .ne 7, 38)) rfl
theorem c259_38 : pm_code 259 38 = some (.iconst 1, 39) := pm_of cl259_0 25 (q := (38, .iconst 1, 39)) rfl
theorem c259_39 : pm_code 259 39 = some (.goto 4, 42) := pm_of cl259_0 26 (q := (39, .goto 4, 42)) rfl
theorem c259_42 : pm_code 259 42 = some (.iconst 0, 43) := pm_of cl259_0 27 (q := (42, .iconst 0, 43)) rfl
theorem c259_43 : pm_code 259 43 = some (.iadd, 44) := pm_of cl259_0 28 (q := (43, .iadd, 44)) rfl
theorem c259_44 : pm_code 259 44 = some (.istore_n 2, 45) := pm_of cl259_0 29 (q := (44, .istore_n 2, 45)) rfl
theorem c259_45 : pm_code 259 45 = some (.iinc 3 1, 48) := pm_of cl259_0 30 (q := (45, .iinc 3 1, 48)) rfl
theorem c259_48 : pm_code 259 48 = some (.goto (-44), 51) := pm_of cl259_0 31 (q := (48, .goto (-44), 51)) rfl
theorem c259_51 : pm_code 259 51 = some (.iload_n 2, 52) := pm_of cl259_0 32 (q := (51, .iload_n 2, 52)) rfl
theorem c259_52 : pm_code 259 52 = some (.ireturn, 53) := pm_of cl259_0 33 (q := (52, .ireturn, 53)) rfl
theorem k260 : pm_k 260 = 12 := by decide +kernel
theorem ml260 : pm_ml 260 = 3 := by decide +kernel
theorem rt260 : pm_rt 260 = (some .boolean) := by decide +kernel
theorem hh260 : pm_hh 260 = [] := by decide +kernel
theorem rc260 : pm_cl 12 = (pm_y 260).cls := by decide +kernel
theorem cl260_0 : ([(0, .aload_n 0, 1), (1, .getfield 65, 4), (4, .iconst 0, 5), (5, .iload_n 1, 6), (6, .iadd, 7), (7, .iaload, 8), (8, .iconst 3, 9), (9, .if_icmp .eq 16, 12), (12, .aload_n 0, 13), (13, .getfield 65, 16), (16, .bipush 40, 18), (18, .iload_n 1, 19), (19, .iadd, 20), (20, .iaload, 21), (21, .iload_n 2, 22), (22, .if_icmp .ne 5, 25), (25, .iconst 0, 26), (26, .ireturn, 27), (27, .aload_n 0, 28), (28, .getfield 65, 31), (31, .bipush 40, 33), (33, .iload_n 1, 34), (34, .iadd, 35), (35, .iload_n 2, 36), (36, .iastore, 37), (37, .iconst 1, 38), (38, .ireturn, 39)] : List (Nat × Instr × Nat)).all (fun q => decide (pm_code 260 q.1 = some q.2)) = true := by decide +kernel
theorem c260_0 : pm_code 260 0 = some (.aload_n 0, 1) := pm_of cl260_0 0 (q := (0, .aload_n 0, 1)) rfl
theorem c260_1 : pm_code 260 1 = some (.getfield 65, 4) := pm_of cl260_0 1 (q := (1, .getfield 65, 4)) rfl
theorem c260_4 : pm_code 260 4 = some (.iconst 0, 5) := pm_of cl260_0 2 (q := (4, .iconst 0, 5)) rfl
theorem c260_5 : pm_code 260 5 = some (.iload_n 1, 6) := pm_of cl260_0 3 (q := (5, .iload_n 1, 6)) rfl
theorem c260_6 : pm_code 260 6 = some (.iadd, 7) := pm_of cl260_0 4 (q := (6, .iadd, 7)) rfl
theorem c260_7 : pm_code 260 7 = some (.iaload, 8) := pm_of cl260_0 5 (q := (7, .iaload, 8)) rfl
theorem c260_8 : pm_code 260 8 = some (.iconst 3, 9) := pm_of cl260_0 6 (q := (8, .iconst 3, 9)) rfl
theorem c260_9 : pm_code 260 9 = some (.if_icmp .eq 16, 12) := pm_of cl260_0 7 (q := (9, .if_icmp .eq 16, 12)) rfl
theorem c260_12 : pm_code 260 12 = some (.aload_n 0, 13) := pm_of cl260_0 8 (q := (12, .aload_n 0, 13)) rfl
theorem c260_13 : pm_code 260 13 = some (.getfield 65, 16) := pm_of cl260_0 9 (q := (13, .getfield 65, 16)) rfl
theorem c260_16 : pm_code 260 16 = some (.bipush 40, 18) := pm_of cl260_0 10 (q := (16, .bipush 40, 18)) rfl
theorem c260_18 : pm_code 260 18 = some (.iload_n 1, 19) := pm_of cl260_0 11 (q := (18, .iload_n 1, 19)) rfl
theorem c260_19 : pm_code 260 19 = some (.iadd, 20) := pm_of cl260_0 12 (q := (19, .iadd, 20)) rfl
theorem c260_20 : pm_code 260 20 = some (.iaload, 21) := pm_of cl260_0 13 (q := (20, .iaload, 21)) rfl
theorem c260_21 : pm_code 260 21 = some (.iload_n 2, 22) := pm_of cl260_0 14 (q := (21, .iload_n 2, 22)) rfl
theorem c260_22 : pm_code 260 22 = some (.if_icmp .ne 5, 25) := pm_of cl260_0 15 (q := (22, .if_icmp .ne 5, 25)) rfl
theorem c260_25 : pm_code 260 25 = some (.iconst 0, 26) := pm_of cl260_0 16 (q := (25, .iconst 0, 26)) rfl
theorem c260_26 : pm_code 260 26 = some (.ireturn, 27) := pm_of cl260_0 17 (q := (26, .ireturn, 27)) rfl
theorem c260_27 : pm_code 260 27 = some (.aload_n 0, 28) := pm_of cl260_0 18 (q := (27, .aload_n 0, 28)) rfl
theorem c260_28 : pm_code 260 28 = some (.getfield 65, 31) := pm_of cl260_0 19 (q := (28, .getfield 65, 31)) rfl
theorem c260_31 : pm_code 260 31 = some (.bipush 40, 33) := pm_of cl260_0 20 (q := (31, .bipush 40, 33)) rfl
theorem c260_33 : pm_code 260 33 = some (.iload_n 1, 34) := pm_of cl260_0 21 (q := (33, .iload_n 1, 34)) rfl
theorem c260_34 : pm_code 260 34 = some (.iadd, 35) := pm_of cl260_0 22 (q := (34, .iadd, 35)) rfl
theorem c260_35 : pm_code 260 35 = some (.iload_n 2, 36) := pm_of cl260_0 23 (q := (35, .iload_n 2, 36)) rfl
theorem c260_36 : pm_code 260 36 = some (.iastore, 37) := pm_of cl260_0 24 (q := (36, .iastore, 37)) rfl
theorem c260_37 : pm_code 260 37 = some (.iconst 1, 38) := pm_of cl260_0 25 (q := (37, .iconst 1, 38)) rfl
theorem c260_38 : pm_code 260 38 = some (.ireturn, 39) := pm_of cl260_0 26 (q := (38, .ireturn, 39)) rfl
theorem k261 : pm_k 261 = 12 := by decide +kernel
theorem ml261 : pm_ml 261 = 2 := by decide +kernel
theorem rt261 : pm_rt 261 = (some .boolean) := by decide +kernel
theorem hh261 : pm_hh 261 = [] := by decide +kernel
theorem rc261 : pm_cl 12 = (pm_y 261).cls := by decide +kernel
theorem cl261_0 : ([(0, .aload_n 0, 1), (1, .iload_n 1, 2), (2, .invokevirtual 383, 5), (5, .ifCond .ne 5, 8), (8, .iconst 0, 9), (9, .ireturn, 10), (10, .aload_n 0, 11), (11, .getfield 65, 14), (14, .bipush 56, 16), (16, .iload_n 1, 17), (17, .iadd, 18), (18, .dup2, 19), (19, .iaload, 20), (20, .aload_n 0, 21), (21, .iload_n 1, 22), (22, .invokevirtual 380, 25), (25, .iconst 4, 26), (26, .idiv, 27), (27, .isub, 28), (28, .iastore, 29), (29, .aload_n 0, 30), (30, .iload_n 1, 31), (31, .invokevirtual 386, 34), (34, .iconst 1, 35), (35, .ireturn, 36)] : List (Nat × Instr × Nat)).all (fun q => decide (pm_code 261 q.1 = some q.2)) = true := by decide +kernel
theorem c261_0 : pm_code 261 0 = some (.aload_n 0, 1) := pm_of cl261_0 0 (q := (0, .aload_n 0, 1)) rfl
theorem c261_1 : pm_code 261 1 = some (.iload_n 1, 2) := pm_of cl261_0 1 (q := (1, .iload_n 1, 2)) rfl
theorem c261_2 : pm_code 261 2 = some (.invokevirtual 383, 5) := pm_of cl261_0 2 (q := (2, .invokevirtual 383, 5)) rfl
theorem c261_5 : pm_code 261 5 = some (.ifCond .ne 5, 8) := pm_of cl261_0 3 (q := (5, .ifCond .ne 5, 8)) rfl
theorem c261_8 : pm_code 261 8 = some (.iconst 0, 9) := pm_of cl261_0 4 (q := (8, .iconst 0, 9)) rfl
theorem c261_9 : pm_code 261 9 = some (.ireturn, 10) := pm_of cl261_0 5 (q := (9, .ireturn, 10)) rfl
theorem c261_10 : pm_code 261 10 = some (.aload_n 0, 11) := pm_of cl261_0 6 (q := (10, .aload_n 0, 11)) rfl
theorem c261_11 : pm_code 261 11 = some (.getfield 65, 14) := pm_of cl261_0 7 (q := (11, .getfield 65, 14)) rfl
theorem c261_14 : pm_code 261 14 = some (.bipush 56, 16) := pm_of cl261_0 8 (q := (14, .bipush 56, 16)) rfl
theorem c261_16 : pm_code 261 16 = some (.iload_n 1, 17) := pm_of cl261_0 9 (q := (16, .iload_n 1, 17)) rfl
theorem c261_17 : pm_code 261 17 = some (.iadd, 18) := pm_of cl261_0 10 (q := (17, .iadd, 18)) rfl
theorem c261_18 : pm_code 261 18 = some (.dup2, 19) := pm_of cl261_0 11 (q := (18, .dup2, 19)) rfl
theorem c261_19 : pm_code 261 19 = some (.iaload, 20) := pm_of cl261_0 12 (q := (19, .iaload, 20)) rfl
theorem c261_20 : pm_code 261 20 = some (.aload_n 0, 21) := pm_of cl261_0 13 (q := (20, .aload_n 0, 21)) rfl
theorem c261_21 : pm_code 261 21 = some (.iload_n 1, 22) := pm_of cl261_0 14 (q := (21, .iload_n 1, 22)) rfl
theorem c261_22 : pm_code 261 22 = some (.invokevirtual 380, 25) := pm_of cl261_0 15 (q := (22, .invokevirtual 380, 25)) rfl
theorem c261_25 : pm_code 261 25 = some (.iconst 4, 26) := pm_of cl261_0 16 (q := (25, .iconst 4, 26)) rfl
theorem c261_26 : pm_code 261 26 = some (.idiv, 27) := pm_of cl261_0 17 (q := (26, .idiv, 27)) rfl
theorem c261_27 : pm_code 261 27 = some (.isub, 28) := pm_of cl261_0 18 (q := (27, .isub, 28)) rfl
theorem c261_28 : pm_code 261 28 = some (.iastore, 29) := pm_of cl261_0 19 (q := (28, .iastore, 29)) rfl
theorem c261_29 : pm_code 261 29 = some (.aload_n 0, 30) := pm_of cl261_0 20 (q := (29, .aload_n 0, 30)) rfl
theorem c261_30 : pm_code 261 30 = some (.iload_n 1, 31) := pm_of cl261_0 21 (q := (30, .iload_n 1, 31)) rfl
theorem c261_31 : pm_code 261 31 = some (.invokevirtual 386, 34) := pm_of cl261_0 22 (q := (31, .invokevirtual 386, 34)) rfl
theorem c261_34 : pm_code 261 34 = some (.iconst 1, 35) := pm_of cl261_0 23 (q := (34, .iconst 1, 35)) rfl
theorem c261_35 : pm_code 261 35 = some (.ireturn, 36) := pm_of cl261_0 24 (q := (35, .ireturn, 36)) rfl
theorem k262 : pm_k 262 = 12 := by decide +kernel
theorem ml262 : pm_ml 262 = 2 := by decide +kernel
theorem rt262 : pm_rt 262 = (some .boolean) := by decide +kernel
theorem hh262 : pm_hh 262 = [] := by decide +kernel
theorem rc262 : pm_cl 12 = (pm_y 262).cls := by decide +kernel
theorem cl262_0 : ([(0, .aload_n 0, 1), (1, .getfield 65, 4), (4, .iconst 0, 5), (5, .iload_n 1, 6), (6, .iadd, 7), (7, .iaload, 8), (8, .iconst 1, 9), (9, .if_icmp .eq 15, 12), (12, .aload_n 0, 13), (13, .getfield 65, 16), (16, .iconst 0, 17), (17, .iload_n 1, 18), (18, .iadd, 19), (19, .iaload, 20), (20, .iconst 2, 21), (21, .if_icmp .ne 26, 24), (24, .aload_n 0, 25), (25, .getfield 65, 28), (28, .bipush 56, 30), (30, .iload_n 1, 31), (31, .iadd, 32), (32, .iaload, 33), (33, .aload_n 0, 34), (34, .iload_n 1, 35), (35, .invokevirtual 380, 38), (38, .iconst 4, 39), (39, .idiv, 40), (40, .if_icmp .lt 7, 43), (43, .iconst 1, 44), (44, .goto 4, 47), (47, .iconst 0, 48), (48, .ireturn, 49)] : List (Nat × Instr × Nat)).all (fun q => decide (pm_code 262 q.1 = some q.2)) = true := by decide +kernel
theorem c262_0 : pm_code 262 0 = some (.aload_n 0, 1) := pm_of cl262_0 0 (q := (0, .aload_n 0, 1)) rfl
theorem c262_1 : pm_code 262 1 = some (.getfield 65, 4) := pm_of cl262_0 1 (q := (1, .getfield 65, 4)) rfl
theorem c262_4 : pm_code 262 4 = some (.iconst 0, 5) := pm_of cl262_0 2 (q := (4, .iconst 0, 5)) rfl
theorem c262_5 : pm_code 262 5 = some (.iload_n 1, 6) := pm_of cl262_0 3 (q := (5, .iload_n 1, 6)) rfl
theorem c262_6 : pm_code 262 6 = some (.iadd, 7) := pm_of cl262_0 4 (q := (6, .iadd, 7)) rfl
theorem c262_7 : pm_code 262 7 = some (.iaload, 8) := pm_of cl262_0 5 (q := (7, .iaload, 8)) rfl
theorem c262_8 : pm_code 262 8 = some (.iconst 1, 9) := pm_of cl262_0 6 (q := (8, .iconst 1, 9)) rfl
theorem c262_9 : pm_code 262 9 = some (.if_icmp .eq 15, 12) := pm_of cl262_0 7 (q := (9, .if_icmp .eq 15, 12)) rfl
theorem c262_12 : pm_code 262 12 = some (.aload_n 0, 13) := pm_of cl262_0 8 (q := (12, .aload_n 0, 13)) rfl
theorem c262_13 : pm_code 262 13 = some (.getfield 65, 16) := pm_of cl262_0 9 (q := (13, .getfield 65, 16)) rfl
theorem c262_16 : pm_code 262 16 = some (.iconst 0, 17) := pm_of cl262_0 10 (q := (16, .iconst 0, 17)) rfl
theorem c262_17 : pm_code 262 17 = some (.iload_n 1, 18) := pm_of cl262_0 11 (q := (17, .iload_n 1, 18)) rfl
theorem c262_18 : pm_code 262 18 = some (.iadd, 19) := pm_of cl262_0 12 (q := (18, .iadd, 19)) rfl
theorem c262_19 : pm_code 262 19 = some (.iaload, 20) := pm_of cl262_0 13 (q := (19, .iaload, 20)) rfl
theorem c262_20 : pm_code 262 20 = some (.iconst 2, 21) := pm_of cl262_0 14 (q := (20, .iconst 2, 21)) rfl
theorem c262_21 : pm_code 262 21 = some (.if_icmp .ne 26, 24) := pm_of cl262_0 15 (q := (21, .if_icmp .ne 26, 24)) rfl
theorem c262_24 : pm_code 262 24 = some (.aload_n 0, 25) := pm_of cl262_0 16 (q := (24, .aload_n 0, 25)) rfl
theorem c262_25 : pm_code 262 25 = some (.getfield 65, 28) := pm_of cl262_0 17 (q := (25, .getfield 65, 28)) rfl
theorem c262_28 : pm_code 262 28 = some (.bipush 56, 30) := pm_of cl262_0 18 (q := (28, .bipush 56, 30)) rfl
theorem c262_30 : pm_code 262 30 = some (.iload_n 1, 31) := pm_of cl262_0 19 (q := (30, .iload_n 1, 31)) rfl
theorem c262_31 : pm_code 262 31 = some (.iadd, 32) := pm_of cl262_0 20 (q := (31, .iadd, 32)) rfl
theorem c262_32 : pm_code 262 32 = some (.iaload, 33) := pm_of cl262_0 21 (q := (32, .iaload, 33)) rfl
theorem c262_33 : pm_code 262 33 = some (.aload_n 0, 34) := pm_of cl262_0 22 (q := (33, .aload_n 0, 34)) rfl
theorem c262_34 : pm_code 262 34 = some (.iload_n 1, 35) := pm_of cl262_0 23 (q := (34, .iload_n 1, 35)) rfl
theorem c262_35 : pm_code 262 35 = some (.invokevirtual 380, 38) := pm_of cl262_0 24 (q := (35, .invokevirtual 380, 38)) rfl
theorem c262_38 : pm_code 262 38 = some (.iconst 4, 39) := pm_of cl262_0 25 (q := (38, .iconst 4, 39)) rfl
theorem c262_39 : pm_code 262 39 = some (.idiv, 40) := pm_of cl262_0 26 (q := (39, .idiv, 40)) rfl
theorem c262_40 : pm_code 262 40 = some (.if_icmp .lt 7, 43) := pm_of cl262_0 27 (q := (40, .if_icmp .lt 7, 43)) rfl
theorem c262_43 : pm_code 262 43 = some (.iconst 1, 44) := pm_of cl262_0 28 (q := (43, .iconst 1, 44)) rfl
theorem c262_44 : pm_code 262 44 = some (.goto 4, 47) := pm_of cl262_0 29 (q := (44, .goto 4, 47)) rfl
theorem c262_47 : pm_code 262 47 = some (.iconst 0, 48) := pm_of cl262_0 30 (q := (47, .iconst 0, 48)) rfl
theorem c262_48 : pm_code 262 48 = some (.ireturn, 49) := pm_of cl262_0 31 (q := (48, .ireturn, 49)) rfl
theorem k263 : pm_k 263 = 12 := by decide +kernel
theorem ml263 : pm_ml 263 = 3 := by decide +kernel
theorem rt263 : pm_rt 263 = (some .int) := by decide +kernel
theorem hh263 : pm_hh 263 = [] := by decide +kernel
theorem rc263 : pm_cl 12 = (pm_y 263).cls := by decide +kernel
theorem cl263_0 : ([(0, .aload_n 0, 1), (1, .getfield 65, 4), (4, .iconst 0, 5), (5, .iload_n 1, 6), (6, .iadd, 7), (7, .iaload, 8), (8, .iconst 3, 9), (9, .if_icmp .ne 5, 12), (12, .iconst 0, 13), (13, .ireturn, 14), (14, .aload_n 0, 15), (15, .iload_n 1, 16), (16, .aload_n 0, 17), (17, .getfield 348, 20), (20, .invokevirtual 371, 23), (23, .aload_n 0, 24), (24, .getfield 65, 27), (27, .bipush 16, 29), (29, .iload_n 1, 30), (30, .iadd, 31), (31, .iaload, 32), (32, .isub, 33), (33, .istore_n 2, 34), (34, .iload_n 2, 35), (35, .ifCond .le 7, 38), (38, .iload_n 2, 39), (39, .goto 4, 42), (42, .iconst 0, 43), (43, .ireturn, 44)] : List (Nat × Instr × Nat)).all (fun q => decide (pm_code 263 q.1 = some q.2)) = true := by decide +kernel
theorem c263_0 : pm_code 263 0 = some (.aload_n 0, 1) := pm_of cl263_0 0 (q := (0, .aload_n 0, 1)) rfl
theorem c263_1 : pm_code 263 1 = some (.getfield 65, 4) := pm_of cl263_0 1 (q := (1, .getfield 65, 4)) rfl
theorem c263_4 : pm_code 263 4 = some (.iconst 0, 5) := pm_of cl263_0 2 (q := (4, .iconst 0, 5)) rfl
theorem c263_5 : pm_code 263 5 = some (.iload_n 1, 6) := pm_of cl263_0 3 (q := (5, .iload_n 1, 6)) rfl
theorem c263_6 : pm_code 263 6 = some (.iadd, 7) := pm_of cl263_0 4 (q := (6, .iadd, 7)) rfl
theorem c263_7 : pm_code 263 7 = some (.iaload, 8) := pm_of cl263_0 5 (q := (7, .iaload, 8)) rfl
theorem c263_8 : pm_code 263 8 = some (.iconst 3, 9) := pm_of cl263_0 6 (q := (8, .iconst 3, 9)) rfl
theorem c263_9 : pm_code 263 9 = some (.if_icmp .ne 5, 12) := pm_of cl263_0 7 (q := (9, .if_icmp .ne 5, 12)) rfl
theorem c263_12 : pm_code 263 12 = some (.iconst 0, 13) := pm_of cl263_0 8 (q := (12, .iconst 0, 13)) rfl
theorem c263_13 : pm_code 263 13 = some (.ireturn, 14) := pm_of cl263_0 9 (q := (13, .ireturn, 14)) rfl
theorem c263_14 : pm_code 263 14 = some (.aload_n 0, 15) := pm_of cl263_0 10 (q := (14, .aload_n 0, 15)) rfl
theorem c263_15 : pm_code 263 15 = some (.iload_n 1, 16) := pm_of cl263_0 11 (q := (15, .iload_n 1, 16)) rfl
theorem c263_16 : pm_code 263 16 = some (.aload_n 0, 17) := pm_of cl263_0 12 (q := (16, .aload_n 0, 17)) rfl
theorem c263_17 : pm_code 263 17 = some (.getfield 348, 20) := pm_of cl263_0 13 (q := (17, .getfield 348, 20)) rfl
theorem c263_20 : pm_code 263 20 = some (.invokevirtual 371, 23) := pm_of cl263_0 14 (q := (20, .invokevirtual 371, 23)) rfl
theorem c263_23 : pm_code 263 23 = some (.aload_n 0, 24) := pm_of cl263_0 15 (q := (23, .aload_n 0, 24)) rfl
theorem c263_24 : pm_code 263 24 = some (.getfield 65, 27) := pm_of cl263_0 16 (q := (24, .getfield 65, 27)) rfl
theorem c263_27 : pm_code 263 27 = some (.bipush 16, 29) := pm_of cl263_0 17 (q := (27, .bipush 16, 29)) rfl
theorem c263_29 : pm_code 263 29 = some (.iload_n 1, 30) := pm_of cl263_0 18 (q := (29, .iload_n 1, 30)) rfl
theorem c263_30 : pm_code 263 30 = some (.iadd, 31) := pm_of cl263_0 19 (q := (30, .iadd, 31)) rfl
theorem c263_31 : pm_code 263 31 = some (.iaload, 32) := pm_of cl263_0 20 (q := (31, .iaload, 32)) rfl
theorem c263_32 : pm_code 263 32 = some (.isub, 33) := pm_of cl263_0 21 (q := (32, .isub, 33)) rfl
theorem c263_33 : pm_code 263 33 = some (.istore_n 2, 34) := pm_of cl263_0 22 (q := (33, .istore_n 2, 34)) rfl
theorem c263_34 : pm_code 263 34 = some (.iload_n 2, 35) := pm_of cl263_0 23 (q := (34, .iload_n 2, 35)) rfl
theorem c263_35 : pm_code 263 35 = some (.ifCond .le 7, 38) := pm_of cl263_0 24 (q := (35, .ifCond .le 7, 38)) rfl
theorem c263_38 : pm_code 263 38 = some (.iload_n 2, 39) := pm_of cl263_0 25 (q := (38, .iload_n 2, 39)) rfl
theorem c263_39 : pm_code 263 39 = some (.goto 4, 42) := pm_of cl263_0 26 (q := (39, .goto 4, 42)) rfl
theorem c263_42 : pm_code 263 42 = some (.iconst 0, 43) := pm_of cl263_0 27 (q := (42, .iconst 0, 43)) rfl
theorem c263_43 : pm_code 263 43 = some (.ireturn, 44) := pm_of cl263_0 28 (q := (43, .ireturn, 44)) rfl
theorem k264 : pm_k 264 = 12 := by decide +kernel
theorem ml264 : pm_ml 264 = 3 := by decide +kernel
theorem rt264 : pm_rt 264 = (some .int) := by decide +kernel
theorem hh264 : pm_hh 264 = [] := by decide +kernel
theorem rc264 : pm_cl 12 = (pm_y 264).cls := by decide +kernel
theorem cl264_0 : ([(0, .aload_n 0, 1), (1, .iload_n 1, 2), (2, .iload_n 2, 3), (3, .aload_n 0, 4), (4, .getfield 29, 7), (7, .iconst 4, 8), (8, .iload_n 1, 9), (9, .imul, 10), (10, .iconst 0, 11), (11, .iadd, 12), (12, .iaload, 13), (13, .aload_n 0, 14), (14, .getfield 65, 17), (17, .bipush 24, 19), (19, .iload_n 1, 20), (20, .iadd, 21), (21, .iaload, 22), (22, .invokevirtual 367, 25), (25, .ireturn, 26)] : List (Nat × Instr × Nat)).all (fun q => decide (pm_code 264 q.1 = some q.2)) = true := by decide +kernel
theorem c264_0 : pm_code 264 0 = some (.aload_n 0, 1) := pm_of cl264_0 0 (q := (0, .aload_n 0, 1)) rfl
theorem c264_1 : pm_code 264 1 = some (.iload_n 1, 2) := pm_of cl264_0 1 (q := (1, .iload_n 1, 2)) rfl
theorem c264_2 : pm_code 264 2 = some (.iload_n 2, 3) := pm_of cl264_0 2 (q := (2, .iload_n 2, 3)) rfl
theorem c264_3 : pm_code 264 3 = some (.aload_n 0, 4) := pm_of cl264_0 3 (q := (3, .aload_n 0, 4)) rfl
theorem c264_4 : pm_code 264 4 = some (.getfield 29, 7) := pm_of cl264_0 4 (q := (4, .getfield 29, 7)) rfl
theorem c264_7 : pm_code 264 7 = some (.iconst 4, 8) := pm_of cl264_0 5 (q := (7, .iconst 4, 8)) rfl
theorem c264_8 : pm_code 264 8 = some (.iload_n 1, 9) := pm_of cl264_0 6 (q := (8, .iload_n 1, 9)) rfl
theorem c264_9 : pm_code 264 9 = some (.imul, 10) := pm_of cl264_0 7 (q := (9, .imul, 10)) rfl
theorem c264_10 : pm_code 264 10 = some (.iconst 0, 11) := pm_of cl264_0 8 (q := (10, .iconst 0, 11)) rfl
theorem c264_11 : pm_code 264 11 = some (.iadd, 12) := pm_of cl264_0 9 (q := (11, .iadd, 12)) rfl
theorem c264_12 : pm_code 264 12 = some (.iaload, 13) := pm_of cl264_0 10 (q := (12, .iaload, 13)) rfl
theorem c264_13 : pm_code 264 13 = some (.aload_n 0, 14) := pm_of cl264_0 11 (q := (13, .aload_n 0, 14)) rfl
theorem c264_14 : pm_code 264 14 = some (.getfield 65, 17) := pm_of cl264_0 12 (q := (14, .getfield 65, 17)) rfl
theorem c264_17 : pm_code 264 17 = some (.bipush 24, 19) := pm_of cl264_0 13 (q := (17, .bipush 24, 19)) rfl
theorem c264_19 : pm_code 264 19 = some (.iload_n 1, 20) := pm_of cl264_0 14 (q := (19, .iload_n 1, 20)) rfl
theorem c264_20 : pm_code 264 20 = some (.iadd, 21) := pm_of cl264_0 15 (q := (20, .iadd, 21)) rfl
theorem c264_21 : pm_code 264 21 = some (.iaload, 22) := pm_of cl264_0 16 (q := (21, .iaload, 22)) rfl
theorem c264_22 : pm_code 264 22 = some (.invokevirtual 367, 25) := pm_of cl264_0 17 (q := (22, .invokevirtual 367, 25)) rfl
theorem c264_25 : pm_code 264 25 = some (.ireturn, 26) := pm_of cl264_0 18 (q := (25, .ireturn, 26)) rfl
theorem k265 : pm_k 265 = 12 := by decide +kernel
theorem ml265 : pm_ml 265 = 5 := by decide +kernel
theorem rt265 : pm_rt 265 = (some .int) := by decide +kernel
theorem hh265 : pm_hh 265 = [] := by decide +kernel
theorem rc265 : pm_cl 12 = (pm_y 265).cls := by decide +kernel
theorem cl265_0 : ([(0, .aload_n 0, 1), (1, .getfield 53, 4), (4, .iconst 0, 5), (5, .iload_n 3, 6), (6, .iastore, 7), (7, .aload_n 0, 8), (8, .getfield 53, 11), (11, .iconst 1, 12), (12, .iload 4, 14), (14, .iastore, 15), (15, .aload_n 0, 16), (16, .getfield 53, 19), (19, .iconst 2, 20), (20, .aload_n 0, 21), (21, .getfield 29, 24), (24, .iconst 4, 25), (25, .iload_n 1, 26), (26, .imul, 27), (27, .iconst 1, 28), (28, .iadd, 29), (29, .iaload, 30), (30, .iastore, 31), (31, .aload_n 0, 32), (32, .getfield 53, 35), (35, .iconst 3, 36), (36, .aload_n 0, 37), (37, .getfield 65, 40), (40, .bipush 32, 42), (42, .iload_n 1, 43), (43, .iadd, 44), (44, .iaload, 45), (45, .iastore, 46), (46, .aload_n 0, 47), (47, .getfield 53, 50), (50, .iconst 4, 51), (51, .aload_n 0, 52), (52, .iload_n 1, 53), (53, .invokevirtual 361, 56), (56, .iastore, 57), (57, .aload_n 0, 58)] : List (Nat × Instr × Nat)).all (fun q => decide (pm_code 265 q.1 = some q.2)) = true := by decide +kernel
theorem c265_0 : pm_code 265 0 = some (.aload_n 0, 1) := pm_of cl265_0 0 (q := (0, .aload_n 0, 1)) rfl
theorem c265_1 : pm_code 265 1 = some (.getfield 53, 4) := pm_of cl265_0 1 (q := (1, .getfield 53, 4)) rfl
theorem c265_4 : pm_code 265 4 = some (.iconst 0, 5) := pm_of cl265_0 2 (q := (4, .iconst 0, 5)) rfl
theorem c265_5 : pm_code 265 5 = some (.iload_n 3, 6) := pm_of cl265_0 3 (q := (5, .iload_n 3, 6)) rfl
theorem c265_6 : pm_code 265 6 = some (.iastore, 7) := pm_of cl265_0 4 (q := (6, .iastore, 7)) rfl
theorem c265_7 : pm_code 265 7 = some (.aload_n 0, 8) := pm_of cl265_0 5 (q := (7, .aload_n 0, 8)) rfl
theorem c265_8 : pm_code 265 8 = some (.getfield 53, 11) := pm_of cl265_0 6 (q := (8, .getfield 53, 11)) rfl
theorem c265_11 : pm_code 265 11 = some (.iconst 1, 12) := pm_of cl265_0 7 (q := (11, .iconst 1, 12)) rfl
theorem c265_12 : pm_code 265 12 = some (.iload 4, 14) := pm_of cl265_0 8 (q := (12, .iload 4, 14)) rfl
theorem c265_14 : pm_code 265 14 = some (.iastore, 15) := pm_of cl265_0 9 (q := (14, .iastore, 15)) rfl
theorem c265_15 : pm_code 265 15 = some (.aload_n 0, 16) := pm_of cl265_0 10 (q := (15, .aload_n 0, 16)) rfl
theorem c265_16 : pm_code 265 16 = some (.getfield 53, 19) := pm_of cl265_0 11 (q := (16, .getfield 53, 19)) rfl
theorem c265_19 : pm_code 265 19 = some (.iconst 2, 20) := pm_of cl265_0 12 (q := (19, .iconst 2, 20)) rfl
theorem c265_20 : pm_code 265 20 = some (.aload_n 0, 21) := pm_of cl265_0 13 (q := (20, .aload_n 0, 21)) rfl
theorem c265_21 : pm_code 265 21 = some (.getfield 29, 24) := pm_of cl265_0 14 (q := (21, .getfield 29, 24)) rfl
theorem c265_24 : pm_code 265 24 = some (.iconst 4, 25) := pm_of cl265_0 15 (q := (24, .iconst 4, 25)) rfl
theorem c265_25 : pm_code 265 25 = some (.iload_n 1, 26) := pm_of cl265_0 16 (q := (25, .iload_n 1, 26)) rfl
theorem c265_26 : pm_code 265 26 = some (.imul, 27) := pm_of cl265_0 17 (q := (26, .imul, 27)) rfl
theorem c265_27 : pm_code 265 27 = some (.iconst 1, 28) := pm_of cl265_0 18 (q := (27, .iconst 1, 28)) rfl
theorem c265_28 : pm_code 265 28 = some (.iadd, 29) := pm_of cl265_0 19 (q := (28, .iadd, 29)) rfl
theorem c265_29 : pm_code 265 29 = some (.iaload, 30) := pm_of cl265_0 20 (q := (29, .iaload, 30)) rfl
theorem c265_30 : pm_code 265 30 = some (.iastore, 31) := pm_of cl265_0 21 (q := (30, .iastore, 31)) rfl
theorem c265_31 : pm_code 265 31 = some (.aload_n 0, 32) := pm_of cl265_0 22 (q := (31, .aload_n 0, 32)) rfl
theorem c265_32 : pm_code 265 32 = some (.getfield 53, 35) := pm_of cl265_0 23 (q := (32, .getfield 53, 35)) rfl
theorem c265_35 : pm_code 265 35 = some (.iconst 3, 36) := pm_of cl265_0 24 (q := (35, .iconst 3, 36)) rfl
theorem c265_36 : pm_code 265 36 = some (.aload_n 0, 37) := pm_of cl265_0 25 (q := (36, .aload_n 0, 37)) rfl
theorem c265_37 : pm_code 265 37 = some (.getfield 65, 40) := pm_of cl265_0 26 (q := (37, .getfield 65, 40)) rfl
theorem c265_40 : pm_code 265 40 = some (.bipush 32, 42) := pm_of cl265_0 27 (q := (40, .bipush 32, 42)) rfl
theorem c265_42 : pm_code 265 42 = some (.iload_n 1, 43) := pm_of cl265_0 28 (q := (42, .iload_n 1, 43)) rfl
theorem c265_43 : pm_code 265 43 = some (.iadd, 44) := pm_of cl265_0 29 (q := (43, .iadd, 44)) rfl
theorem c265_44 : pm_code 265 44 = some (.iaload, 45) := pm_of cl265_0 30 (q := (44, .iaload, 45)) rfl
theorem c265_45 : pm_code 265 45 = some (.iastore, 46) := pm_of cl265_0 31 (q := (45, .iastore, 46)) rfl
theorem c265_46 : pm_code 265 46 = some (.aload_n 0, 47) := pm_of cl265_0 32 (q := (46, .aload_n 0, 47)) rfl
theorem c265_47 : pm_code 265 47 = some (.getfield 53, 50) := pm_of cl265_0 33 (q := (47, .getfield 53, 50)) rfl
theorem c265_50 : pm_code 265 50 = some (.iconst 4, 51) := pm_of cl265_0 34 (q := (50, .iconst 4, 51)) rfl
theorem c265_51 : pm_code 265 51 = some (.aload_n 0, 52) := pm_of cl265_0 35 (q := (51, .aload_n 0, 52)) rfl
theorem c265_52 : pm_code 265 52 = some (.iload_n 1, 53) := pm_of cl265_0 36 (q := (52, .iload_n 1, 53)) rfl
theorem c265_53 : pm_code 265 53 = some (.invokevirtual 361, 56) := pm_of cl265_0 37 (q := (53, .invokevirtual 361, 56)) rfl
theorem c265_56 : pm_code 265 56 = some (.iastore, 57) := pm_of cl265_0 38 (q := (56, .iastore, 57)) rfl
theorem c265_57 : pm_code 265 57 = some (.aload_n 0, 58) := pm_of cl265_0 39 (q := (57, .aload_n 0, 58)) rfl
theorem cl265_1 : ([(58, .getfield 53, 61), (61, .iconst 5, 62), (62, .aload_n 0, 63), (63, .getfield 65, 66), (66, .bipush 40, 68), (68, .iload_n 1, 69), (69, .iadd, 70), (70, .iaload, 71), (71, .iastore, 72), (72, .aload_n 0, 73), (73, .getfield 53, 76), (76, .bipush 6, 78), (78, .aload_n 0, 79), (79, .getfield 65, 82), (82, .bipush 48, 84), (84, .iload_n 1, 85), (85, .iadd, 86), (86, .iaload, 87), (87, .iconst (-1), 88), (88, .if_icmp .ne 13, 91), (91, .aload_n 0, 92), (92, .getfield 65, 95), (95, .bipush 64, 97), (97, .iaload, 98), (98, .goto 12, 101), (101, .aload_n 0, 102), (102, .getfield 65, 105), (105, .bipush 48, 107), (107, .iload_n 1, 108), (108, .iadd, 109), (109, .iaload, 110), (110, .iastore, 111), (111, .aload_n 0, 112), (112, .getfield 53, 115), (115, .bipush 7, 117), (117, .aload_n 0, 118), (118, .getfield 65, 121), (121, .bipush 64, 123), (123, .iaload, 124), (124, .iastore, 125)] : List (Nat × Instr × Nat)).all (fun q => decide (pm_code 265 q.1 = some q.2)) = true := by decide +kernel
theorem c265_58 : pm_code 265 58 = some (.getfield 53, 61) := pm_of cl265_1 0 (q := (58, .getfield 53, 61)) rfl
theorem c265_61 : pm_code 265 61 = some (.iconst 5, 62) := pm_of cl265_1 1 (q := (61, .iconst 5, 62)) rfl
theorem c265_62 : pm_code 265 62 = some (.aload_n 0, 63) := pm_of cl265_1 2 (q := (62, .aload_n 0, 63)) rfl
theorem c265_63 : pm_code 265 63 = some (.getfield 65, 66) := pm_of cl265_1 3 (q := (63, .getfield 65, 66)) rfl
theorem c265_66 : pm_code 265 66 = some (.bipush 40, 68) := pm_of cl265_1 4 (q := (66, .bipush 40, 68)) rfl
theorem c265_68 : pm_code 265 68 = some (.iload_n 1, 69) := pm_of cl265_1 5 (q := (68, .iload_n 1, 69)) rfl
theorem c265_69 : pm_code 265 69 = some (.iadd, 70) := pm_of cl265_1 6 (q := (69, .iadd, 70)) rfl
theorem c265_70 : pm_code 265 70 = some (.iaload, 71) := pm_of cl265_1 7 (q := (70, .iaload, 71)) rfl
theorem c265_71 : pm_code 265 71 = some (.iastore, 72) := pm_of cl265_1 8 (q := (71, .iastore, 72)) rfl
theorem c265_72 : pm_code 265 72 = some (.aload_n 0, 73) := pm_of cl265_1 9 (q := (72, .aload_n 0, 73)) rfl
theorem c265_73 : pm_code 265 73 = some (.getfield 53, 76) := pm_of cl265_1 10 (q := (73, .getfield 53, 76)) rfl
theorem c265_76 : pm_code 265 76 = some (.bipush 6, 78) := pm_of cl265_1 11 (q := (76, .bipush 6, 78)) rfl
theorem c265_78 : pm_code 265 78 = some (.aload_n 0, 79) := pm_of cl265_1 12 (q := (78, .aload_n 0, 79)) rfl
theorem c265_79 : pm_code 265 79 = some (.getfield 65, 82) := pm_of cl265_1 13 (q := (79, .getfield 65, 82)) rfl
theorem c265_82 : pm_code 265 82 = some (.bipush 48, 84) := pm_of cl265_1 14 (q := (82, .bipush 48, 84)) rfl
theorem c265_84 : pm_code 265 84 = some (.iload_n 1, 85) := pm_of cl265_1 15 (q := (84, .iload_n 1, 85)) rfl
theorem c265_85 : pm_code 265 85 = some (.iadd, 86) := pm_of cl265_1 16 (q := (85, .iadd, 86)) rfl
theorem c265_86 : pm_code 265 86 = some (.iaload, 87) := pm_of cl265_1 17 (q := (86, .iaload, 87)) rfl
theorem c265_87 : pm_code 265 87 = some (.iconst (-1), 88) := pm_of cl265_1 18 (q := (87, .iconst (-1), 88)) rfl
theorem c265_88 : pm_code 265 88 = some (.if_icmp .ne 13, 91) := pm_of cl265_1 19 (q := (88, .if_icmp .ne 13, 91)) rfl
theorem c265_91 : pm_code 265 91 = some (.aload_n 0, 92) := pm_of cl265_1 20 (q := (91, .aload_n 0, 92)) rfl
theorem c265_92 : pm_code 265 92 = some (.getfield 65, 95) := pm_of cl265_1 21 (q := (92, .getfield 65, 95)) rfl
theorem c265_95 : pm_code 265 95 = some (.bipush 64, 97) := pm_of cl265_1 22 (q := (95, .bipush 64, 97)) rfl
theorem c265_97 : pm_code 265 97 = some (.iaload, 98) := pm_of cl265_1 23 (q := (97, .iaload, 98)) rfl
theorem c265_98 : pm_code 265 98 = some (.goto 12, 101) := pm_of cl265_1 24 (q := (98, .goto 12, 101)) rfl
theorem c265_101 : pm_code 265 101 = some (.aload_n 0, 102) := pm_of cl265_1 25 (q := (101, .aload_n 0, 102)) rfl
theorem c265_102 : pm_code 265 102 = some (.getfield 65, 105) := pm_of cl265_1 26 (q := (102, .getfield 65, 105)) rfl
theorem c265_105 : pm_code 265 105 = some (.bipush 48, 107) := pm_of cl265_1 27 (q := (105, .bipush 48, 107)) rfl
theorem c265_107 : pm_code 265 107 = some (.iload_n 1, 108) := pm_of cl265_1 28 (q := (107, .iload_n 1, 108)) rfl
theorem c265_108 : pm_code 265 108 = some (.iadd, 109) := pm_of cl265_1 29 (q := (108, .iadd, 109)) rfl
theorem c265_109 : pm_code 265 109 = some (.iaload, 110) := pm_of cl265_1 30 (q := (109, .iaload, 110)) rfl
theorem c265_110 : pm_code 265 110 = some (.iastore, 111) := pm_of cl265_1 31 (q := (110, .iastore, 111)) rfl
theorem c265_111 : pm_code 265 111 = some (.aload_n 0, 112) := pm_of cl265_1 32 (q := (111, .aload_n 0, 112)) rfl
theorem c265_112 : pm_code 265 112 = some (.getfield 53, 115) := pm_of cl265_1 33 (q := (112, .getfield 53, 115)) rfl
theorem c265_115 : pm_code 265 115 = some (.bipush 7, 117) := pm_of cl265_1 34 (q := (115, .bipush 7, 117)) rfl
theorem c265_117 : pm_code 265 117 = some (.aload_n 0, 118) := pm_of cl265_1 35 (q := (117, .aload_n 0, 118)) rfl
theorem c265_118 : pm_code 265 118 = some (.getfield 65, 121) := pm_of cl265_1 36 (q := (118, .getfield 65, 121)) rfl
theorem c265_121 : pm_code 265 121 = some (.bipush 64, 123) := pm_of cl265_1 37 (q := (121, .bipush 64, 123)) rfl
theorem c265_123 : pm_code 265 123 = some (.iaload, 124) := pm_of cl265_1 38 (q := (123, .iaload, 124)) rfl
theorem c265_124 : pm_code 265 124 = some (.iastore, 125) := pm_of cl265_1 39 (q := (124, .iastore, 125)) rfl
theorem cl265_2 : ([(125, .aload_n 0, 126), (126, .iload_n 2, 127), (127, .invokevirtual 364, 130), (130, .ireturn, 131)] : List (Nat × Instr × Nat)).all (fun q => decide (pm_code 265 q.1 = some q.2)) = true := by decide +kernel
theorem c265_125 : pm_code 265 125 = some (.aload_n 0, 126) := pm_of cl265_2 0 (q := (125, .aload_n 0, 126)) rfl
theorem c265_126 : pm_code 265 126 = some (.iload_n 2, 127) := pm_of cl265_2 1 (q := (126, .iload_n 2, 127)) rfl
theorem c265_127 : pm_code 265 127 = some (.invokevirtual 364, 130) := pm_of cl265_2 2 (q := (127, .invokevirtual 364, 130)) rfl
theorem c265_130 : pm_code 265 130 = some (.ireturn, 131) := pm_of cl265_2 3 (q := (130, .ireturn, 131)) rfl
theorem k266 : pm_k 266 = 12 := by decide +kernel
theorem ml266 : pm_ml 266 = 4 := by decide +kernel
theorem rt266 : pm_rt 266 = (some .int) := by decide +kernel
theorem hh266 : pm_hh 266 = [] := by decide +kernel
theorem rc266 : pm_cl 12 = (pm_y 266).cls := by decide +kernel
theorem cl266_0 : ([(0, .iconst 0, 1), (1, .istore_n 2, 2), (2, .iconst 0, 3), (3, .istore_n 3, 4), (4, .iload_n 3, 5), (5, .aload_n 0, 6), (6, .getfield 169, 9), (9, .if_icmp .ge 26, 12), (12, .iload_n 2, 13), (13, .aload_n 0, 14), (14, .iload_n 1, 15), (15, .iload_n 3, 16), (16, .invokevirtual 357, 19), (19, .ifCond .eq 7, 22), (22, .iconst 1, 23), (23, .goto 4, 26), (26, .iconst 0, 27), (27, .iadd, 28), (28, .istore_n 2, 29), (29, .iinc 3 1, 32), (32, .goto (-28), 35), (35, .iload_n 2, 36), (36, .ireturn, 37)] : List (Nat × Instr × Nat)).all (fun q => decide (pm_code 266 q.1 = some q.2)) = true := by decide +kernel
theorem c266_0 : pm_code 266 0 = some (.iconst 0, 1) := pm_of cl266_0 0 (q := (0, .iconst 0, 1)) rfl
theorem c266_1 : pm_code 266 1 = some (.istore_n 2, 2) := pm_of cl266_0 1 (q := (1, .istore_n 2, 2)) rfl
theorem c266_2 : pm_code 266 2 = some (.iconst 0, 3) := pm_of cl266_0 2 (q := (2, .iconst 0, 3)) rfl
theorem c266_3 : pm_code 266 3 = some (.istore_n 3, 4) := pm_of cl266_0 3 (q := (3, .istore_n 3, 4)) rfl
theorem c266_4 : pm_code 266 4 = some (.iload_n 3, 5) := pm_of cl266_0 4 (q := (4, .iload_n 3, 5)) rfl
theorem c266_5 : pm_code 266 5 = some (.aload_n 0, 6) := pm_of cl266_0 5 (q := (5, .aload_n 0, 6)) rfl
theorem c266_6 : pm_code 266 6 = some (.getfield 169, 9) := pm_of cl266_0 6 (q := (6, .getfield 169, 9)) rfl
theorem c266_9 : pm_code 266 9 = some (.if_icmp .ge 26, 12) := pm_of cl266_0 7 (q := (9, .if_icmp .ge 26, 12)) rfl
theorem c266_12 : pm_code 266 12 = some (.iload_n 2, 13) := pm_of cl266_0 8 (q := (12, .iload_n 2, 13)) rfl
theorem c266_13 : pm_code 266 13 = some (.aload_n 0, 14) := pm_of cl266_0 9 (q := (13, .aload_n 0, 14)) rfl
theorem c266_14 : pm_code 266 14 = some (.iload_n 1, 15) := pm_of cl266_0 10 (q := (14, .iload_n 1, 15)) rfl
theorem c266_15 : pm_code 266 15 = some (.iload_n 3, 16) := pm_of cl266_0 11 (q := (15, .iload_n 3, 16)) rfl
theorem c266_16 : pm_code 266 16 = some (.invokevirtual 357, 19) := pm_of cl266_0 12 (q := (16, .invokevirtual 357, 19)) rfl
theorem c266_19 : pm_code 266 19 = some (.ifCond .eq 7, 22) := pm_of cl266_0 13 (q := (19, .ifCond .eq 7, 22)) rfl
theorem c266_22 : pm_code 266 22 = some (.iconst 1, 23) := pm_of cl266_0 14 (q := (22, .iconst 1, 23)) rfl
theorem c266_23 : pm_code 266 23 = some (.goto 4, 26) := pm_of cl266_0 15 (q := (23, .goto 4, 26)) rfl
theorem c266_26 : pm_code 266 26 = some (.iconst 0, 27) := pm_of cl266_0 16 (q := (26, .iconst 0, 27)) rfl
theorem c266_27 : pm_code 266 27 = some (.iadd, 28) := pm_of cl266_0 17 (q := (27, .iadd, 28)) rfl
theorem c266_28 : pm_code 266 28 = some (.istore_n 2, 29) := pm_of cl266_0 18 (q := (28, .istore_n 2, 29)) rfl
theorem c266_29 : pm_code 266 29 = some (.iinc 3 1, 32) := pm_of cl266_0 19 (q := (29, .iinc 3 1, 32)) rfl
theorem c266_32 : pm_code 266 32 = some (.goto (-28), 35) := pm_of cl266_0 20 (q := (32, .goto (-28), 35)) rfl
theorem c266_35 : pm_code 266 35 = some (.iload_n 2, 36) := pm_of cl266_0 21 (q := (35, .iload_n 2, 36)) rfl
theorem c266_36 : pm_code 266 36 = some (.ireturn, 37) := pm_of cl266_0 22 (q := (36, .ireturn, 37)) rfl
theorem k267 : pm_k 267 = 12 := by decide +kernel
theorem ml267 : pm_ml 267 = 3 := by decide +kernel
theorem rt267 : pm_rt 267 = (some .boolean) := by decide +kernel
theorem hh267 : pm_hh 267 = [] := by decide +kernel
theorem rc267 : pm_cl 12 = (pm_y 267).cls := by decide +kernel
theorem cl267_0 : ([(0, .iload_n 1, 1), (1, .iload_n 2, 2), (2, .if_icmp .eq 43, 5), (5, .aload_n 0, 6), (6, .getfield 29, 9), (9, .iconst 4, 10), (10, .iload_n 1, 11), (11, .imul, 12), (12, .iconst 2, 13), (13, .iadd, 14), (14, .iaload, 15), (15, .ifCond .le 30, 18), (18, .aload_n 0, 19), (19, .getfield 29, 22), (22, .iconst 4, 23), (23, .iload_n 1, 24), (24, .imul, 25), (25, .iconst 2, 26), (26, .iadd, 27), (27, .iaload, 28), (28, .aload_n 0, 29), (29, .getfield 29, 32), (32, .iconst 4, 33), (33, .iload_n 2, 34), (34, .imul, 35), (35, .iconst 2, 36), (36, .iadd, 37), (37, .iaload, 38), (38, .if_icmp .ne 7, 41), (41, .iconst 1, 42), (42, .goto 4, 45), (45, .iconst 0, 46), (46, .ireturn, 47)] : List (Nat × Instr × Nat)).all (fun q => decide (pm_code 267 q.1 = some q.2)) = true := by decide +kernel
theorem c267_0 : pm_code 267 0 = some (.iload_n 1, 1) := pm_of cl267_0 0 (q := (0, .iload_n 1, 1)) rfl
theorem c267_1 : pm_code 267 1 = some (.iload_n 2, 2) := pm_of cl267_0 1 (q := (1, .iload_n 2, 2)) rfl
theorem c267_2 : pm_code 267 2 = some (.if_icmp .eq 43, 5) := pm_of cl267_0 2 (q := (2, .if_icmp .eq 43, 5)) rfl
theorem c267_5 : pm_code 267 5 = some (.aload_n 0, 6) := pm_of cl267_0 3 (q := (5, .aload_n 0, 6)) rfl
theorem c267_6 : pm_code 267 6 = some (.getfield 29, 9) := pm_of cl267_0 4 (q := (6, .getfield 29, 9)) rfl
theorem c267_9 : pm_code 267 9 = some (.iconst 4, 10) := pm_of cl267_0 5 (q := (9, .iconst 4, 10)) rfl
theorem c267_10 : pm_code 267 10 = some (.iload_n 1, 11) := pm_of cl267_0 6 (q := (10, .iload_n 1, 11)) rfl
theorem c267_11 : pm_code 267 11 = some (.imul, 12) := pm_of cl267_0 7 (q := (11, .imul, 12)) rfl
theorem c267_12 : pm_code 267 12 = some (.iconst 2, 13) := pm_of cl267_0 8 (q := (12, .iconst 2, 13)) rfl
theorem c267_13 : pm_code 267 13 = some (.iadd, 14) := pm_of cl267_0 9 (q := (13, .iadd, 14)) rfl
theorem c267_14 : pm_code 267 14 = some (.iaload, 15) := pm_of cl267_0 10 (q := (14, .iaload, 15)) rfl
theorem c267_15 : pm_code 267 15 = some (.ifCond .le 30, 18) := pm_of cl267_0 11 (q := (15, .ifCond .le 30, 18)) rfl
theorem c267_18 : pm_code 267 18 = some (.aload_n 0, 19) := pm_of cl267_0 12 (q := (18, .aload_n 0, 19)) rfl
theorem c267_19 : pm_code 267 19 = some (.getfield 29, 22) := pm_of cl267_0 13 (q := (19, .getfield 29, 22)) rfl
theorem c267_22 : pm_code 267 22 = some (.iconst 4, 23) := pm_of cl267_0 14 (q := (22, .iconst 4, 23)) rfl
theorem c267_23 : pm_code 267 23 = some (.iload_n 1, 24) := pm_of cl267_0 15 (q := (23, .iload_n 1, 24)) rfl
theorem c267_24 : pm_code 267 24 = some (.imul, 25) := pm_of cl267_0 16 (q := (24, .imul, 25)) rfl
theorem c267_25 : pm_code 267 25 = some (.iconst 2, 26) := pm_of cl267_0 17 (q := (25, .iconst 2, 26)) rfl
theorem c267_26 : pm_code 267 26 = some (.iadd, 27) := pm_of cl267_0 18 (q := (26, .iadd, 27)) rfl
theorem c267_27 : pm_code 267 27 = some (.iaload, 28) := pm_of cl267_0 19 (q := (27, .iaload, 28)) rfl
theorem c267_28 : pm_code 267 28 = some (.aload_n 0, 29) := pm_of cl267_0 20 (q := (28, .aload_n 0, 29)) rfl
theorem c267_29 : pm_code 267 29 = some (.getfield 29, 32) := pm_of cl267_0 21 (q := (29, .getfield 29, 32)) rfl
theorem c267_32 : pm_code 267 32 = some (.iconst 4, 33) := pm_of cl267_0 22 (q := (32, .iconst 4, 33)) rfl
theorem c267_33 : pm_code 267 33 = some (.iload_n 2, 34) := pm_of cl267_0 23 (q := (33, .iload_n 2, 34)) rfl
theorem c267_34 : pm_code 267 34 = some (.imul, 35) := pm_of cl267_0 24 (q := (34, .imul, 35)) rfl
theorem c267_35 : pm_code 267 35 = some (.iconst 2, 36) := pm_of cl267_0 25 (q := (35, .iconst 2, 36)) rfl
theorem c267_36 : pm_code 267 36 = some (.iadd, 37) := pm_of cl267_0 26 (q := (36, .iadd, 37)) rfl
theorem c267_37 : pm_code 267 37 = some (.iaload, 38) := pm_of cl267_0 27 (q := (37, .iaload, 38)) rfl
theorem c267_38 : pm_code 267 38 = some (.if_icmp .ne 7, 41) := pm_of cl267_0 28 (q := (38, .if_icmp .ne 7, 41)) rfl
theorem c267_41 : pm_code 267 41 = some (.iconst 1, 42) := pm_of cl267_0 29 (q := (41, .iconst 1, 42)) rfl
theorem c267_42 : pm_code 267 42 = some (.goto 4, 45) := pm_of cl267_0 30 (q := (42, .goto 4, 45)) rfl
theorem c267_45 : pm_code 267 45 = some (.iconst 0, 46) := pm_of cl267_0 31 (q := (45, .iconst 0, 46)) rfl
theorem c267_46 : pm_code 267 46 = some (.ireturn, 47) := pm_of cl267_0 32 (q := (46, .ireturn, 47)) rfl
theorem k268 : pm_k 268 = 12 := by decide +kernel
theorem ml268 : pm_ml 268 = 3 := by decide +kernel
theorem rt268 : pm_rt 268 = (some .int) := by decide +kernel
theorem hh268 : pm_hh 268 = [] := by decide +kernel
theorem rc268 : pm_cl 12 = (pm_y 268).cls := by decide +kernel
theorem cl268_0 : ([(0, .aload_n 0, 1), (1, .getfield 47, 4), (4, .iload_n 1, 5), (5, .iaload, 6), (6, .ifCond .ne 24, 9), (9, .bipush 52, 11), (11, .aload_n 0, 12), (12, .getfield 53, 15), (15, .iconst 0, 16), (16, .iaload, 17), (17, .imul, 18), (18, .iconst 4, 19), (19, .aload_n 0, 20), (20, .getfield 53, 23), (23, .iconst 1, 24), (24, .iaload, 25), (25, .imul, 26), (26, .iadd, 27), (27, .goto 8, 30), (30, .aload_n 0, 31), (31, .iload_n 1, 32), (32, .invokevirtual 298, 35), (35, .istore_n 2, 36), (36, .iload_n 2, 37), (37, .ifCond .ge 7, 40), (40, .iconst 0, 41), (41, .goto 17, 44), (44, .iload_n 2, 45), (45, .sipush 999, 48), (48, .if_icmp .le 9, 51), (51, .sipush 999, 54), (54, .goto 4, 57), (57, .iload_n 2, 58), (58, .ireturn, 59)] : List (Nat × Instr × Nat)).all (fun q => decide (pm_code 268 q.1 = some q.2)) = true := by decide +kernel
theorem c268_0 : pm_code 268 0 = some (.aload_n 0, 1) := pm_of cl268_0 0 (q := (0, .aload_n 0, 1)) rfl
theorem c268_1 : pm_code 268 1 = some (.getfield 47, 4) := pm_of cl268_0 1 (q := (1, .getfield 47, 4)) rfl
theorem c268_4 : pm_code 268 4 = some (.iload_n 1, 5) := pm_of cl268_0 2 (q := (4, .iload_n 1, 5)) rfl
theorem c268_5 : pm_code 268 5 = some (.iaload, 6) := pm_of cl268_0 3 (q := (5, .iaload, 6)) rfl
theorem c268_6 : pm_code 268 6 = some (.ifCond .ne 24, 9) := pm_of cl268_0 4 (q := (6, .ifCond .ne 24, 9)) rfl
theorem c268_9 : pm_code 268 9 = some (.bipush 52, 11) := pm_of cl268_0 5 (q := (9, .bipush 52, 11)) rfl
theorem c268_11 : pm_code 268 11 = some (.aload_n 0, 12) := pm_of cl268_0 6 (q := (11, .aload_n 0, 12)) rfl
theorem c268_12 : pm_code 268 12 = some (.getfield 53, 15) := pm_of cl268_0 7 (q := (12, .getfield 53, 15)) rfl
theorem c268_15 : pm_code 268 15 = some (.iconst 0, 16) := pm_of cl268_0 8 (q := (15, .iconst 0, 16)) rfl
theorem c268_16 : pm_code 268 16 = some (.iaload, 17) := pm_of cl268_0 9 (q := (16, .iaload, 17)) rfl
theorem c268_17 : pm_code 268 17 = some (.imul, 18) := pm_of cl268_0 10 (q := (17, .imul, 18)) rfl
theorem c268_18 : pm_code 268 18 = some (.iconst 4, 19) := pm_of cl268_0 11 (q := (18, .iconst 4, 19)) rfl
theorem c268_19 : pm_code 268 19 = some (.aload_n 0, 20) := pm_of cl268_0 12 (q := (19, .aload_n 0, 20)) rfl
theorem c268_20 : pm_code 268 20 = some (.getfield 53, 23) := pm_of cl268_0 13 (q := (20, .getfield 53, 23)) rfl
theorem c268_23 : pm_code 268 23 = some (.iconst 1, 24) := pm_of cl268_0 14 (q := (23, .iconst 1, 24)) rfl
theorem c268_24 : pm_code 268 24 = some (.iaload, 25) := pm_of cl268_0 15 (q := (24, .iaload, 25)) rfl
theorem c268_25 : pm_code 268 25 = some (.imul, 26) := pm_of cl268_0 16 (q := (25, .imul, 26)) rfl
theorem c268_26 : pm_code 268 26 = some (.iadd, 27) := pm_of cl268_0 17 (q := (26, .iadd, 27)) rfl
theorem c268_27 : pm_code 268 27 = some (.goto 8, 30) := pm_of cl268_0 18 (q := (27, .goto 8, 30)) rfl
theorem c268_30 : pm_code 268 30 = some (.aload_n 0, 31) := pm_of cl268_0 19 (q := (30, .aload_n 0, 31)) rfl
theorem c268_31 : pm_code 268 31 = some (.iload_n 1, 32) := pm_of cl268_0 20 (q := (31, .iload_n 1, 32)) rfl
theorem c268_32 : pm_code 268 32 = some (.invokevirtual 298, 35) := pm_of cl268_0 21 (q := (32, .invokevirtual 298, 35)) rfl
theorem c268_35 : pm_code 268 35 = some (.istore_n 2, 36) := pm_of cl268_0 22 (q := (35, .istore_n 2, 36)) rfl
theorem c268_36 : pm_code 268 36 = some (.iload_n 2, 37) := pm_of cl268_0 23 (q := (36, .iload_n 2, 37)) rfl
theorem c268_37 : pm_code 268 37 = some (.ifCond .ge 7, 40) := pm_of cl268_0 24 (q := (37, .ifCond .ge 7, 40)) rfl
theorem c268_40 : pm_code 268 40 = some (.iconst 0, 41) := pm_of cl268_0 25 (q := (40, .iconst 0, 41)) rfl
theorem c268_41 : pm_code 268 41 = some (.goto 17, 44) := pm_of cl268_0 26 (q := (41, .goto 17, 44)) rfl
theorem c268_44 : pm_code 268 44 = some (.iload_n 2, 45) := pm_of cl268_0 27 (q := (44, .iload_n 2, 45)) rfl
theorem c268_45 : pm_code 268 45 = some (.sipush 999, 48) := pm_of cl268_0 28 (q := (45, .sipush 999, 48)) rfl
theorem c268_48 : pm_code 268 48 = some (.if_icmp .le 9, 51) := pm_of cl268_0 29 (q := (48, .if_icmp .le 9, 51)) rfl
theorem c268_51 : pm_code 268 51 = some (.sipush 999, 54) := pm_of cl268_0 30 (q := (51, .sipush 999, 54)) rfl
theorem c268_54 : pm_code 268 54 = some (.goto 4, 57) := pm_of cl268_0 31 (q := (54, .goto 4, 57)) rfl
theorem c268_57 : pm_code 268 57 = some (.iload_n 2, 58) := pm_of cl268_0 32 (q := (57, .iload_n 2, 58)) rfl
theorem c268_58 : pm_code 268 58 = some (.ireturn, 59) := pm_of cl268_0 33 (q := (58, .ireturn, 59)) rfl
theorem k269 : pm_k 269 = 12 := by decide +kernel
theorem ml269 : pm_ml 269 = 5 := by decide +kernel
theorem rt269 : pm_rt 269 = (some .int) := by decide +kernel
theorem hh269 : pm_hh 269 = [] := by decide +kernel
theorem rc269 : pm_cl 12 = (pm_y 269).cls := by decide +kernel
theorem cl269_0 : ([(0, .iconst 0, 1), (1, .istore_n 2, 2), (2, .sipush 150, 5), (5, .iload_n 1, 6), (6, .imul, 7), (7, .istore_n 3, 8), (8, .iload_n 3, 9), (9, .sipush 150, 12), (12, .iload_n 1, 13), (13, .imul, 14), (14, .aload_n 0, 15), (15, .getfield 47, 18), (18, .iload_n 1, 19), (19, .iaload, 20), (20, .iadd, 21), (21, .if_icmp .ge 90, 24), (24, .aload_n 0, 25), (25, .getfield 41, 28), (28, .iload_n 3, 29), (29, .iaload, 30), (30, .istore 4, 32), (32, .iload 4, 34), (34, .iconst 1, 35), (35, .if_icmp .gt 40, 38), (38, .aload_n 0, 39), (39, .getfield 50, 42), (42, .iload_n 2, 43), (43, .iload 4, 45), (45, .ifCond .ne 12, 48), (48, .aload_n 0, 49), (49, .getfield 44, 52), (52, .iload_n 3, 53), (53, .iaload, 54), (54, .goto 14, 57), (57, .aload_n 0, 58), (58, .getfield 53, 61), (61, .aload_n 0, 62), (62, .getfield 44, 65), (65, .iload_n 3, 66), (66, .iaload, 67)] : List (Nat × Instr × Nat)).all (fun q => decide (pm_code 269 q.1 = some q.2)) = true := by decide +kernel
theorem c269_0 : pm_code 269 0 = some (.iconst 0, 1) := pm_of cl269_0 0 (q := (0, .iconst 0, 1)) rfl
theorem c269_1 : pm_code 269 1 = some (.istore_n 2, 2) := pm_of cl269_0 1 (q := (1, .istore_n 2, 2)) rfl
theorem c269_2 : pm_code 269 2 = some (.sipush 150, 5) := pm_of cl269_0 2 (q := (2, .sipush 150, 5)) rfl
theorem c269_5 : pm_code 269 5 = some (.iload_n 1, 6) := pm_of cl269_0 3 (q := (5, .iload_n 1, 6)) rfl
theorem c269_6 : pm_code 269 6 = some (.imul, 7) := pm_of cl269_0 4 (q := (6, .imul, 7)) rfl
theorem c269_7 : pm_code 269 7 = some (.istore_n 3, 8) := pm_of cl269_0 5 (q := (7, .istore_n 3, 8)) rfl
theorem c269_8 : pm_code 269 8 = some (.iload_n 3, 9) := pm_of cl269_0 6 (q := (8, .iload_n 3, 9)) rfl
theorem c269_9 : pm_code 269 9 = some (.sipush 150, 12) := pm_of cl269_0 7 (q := (9, .sipush 150, 12)) rfl
theorem c269_12 : pm_code 269 12 = some (.iload_n 1, 13) := pm_of cl269_0 8 (q := (12, .iload_n 1, 13)) rfl
theorem c269_13 : pm_code 269 13 = some (.imul, 14) := pm_of cl269_0 9 (q := (13, .imul, 14)) rfl
theorem c269_14 : pm_code 269 14 = some (.aload_n 0, 15) := pm_of cl269_0 10 (q := (14, .aload_n 0, 15)) rfl
theorem c269_15 : pm_code 269 15 = some (.getfield 47, 18) := pm_of cl269_0 11 (q := (15, .getfield 47, 18)) rfl
theorem c269_18 : pm_code 269 18 = some (.iload_n 1, 19) := pm_of cl269_0 12 (q := (18, .iload_n 1, 19)) rfl
theorem c269_19 : pm_code 269 19 = some (.iaload, 20) := pm_of cl269_0 13 (q := (19, .iaload, 20)) rfl
theorem c269_20 : pm_code 269 20 = some (.iadd, 21) := pm_of cl269_0 14 (q := (20, .iadd, 21)) rfl
theorem c269_21 : pm_code 269 21 = some (.if_icmp .ge 90, 24) := pm_of cl269_0 15 (q := (21, .if_icmp .ge 90, 24)) rfl
theorem c269_24 : pm_code 269 24 = some (.aload_n 0, 25) := pm_of cl269_0 16 (q := (24, .aload_n 0, 25)) rfl
theorem c269_25 : pm_code 269 25 = some (.getfield 41, 28) := pm_of cl269_0 17 (q := (25, .getfield 41, 28)) rfl
theorem c269_28 : pm_code 269 28 = some (.iload_n 3, 29) := pm_of cl269_0 18 (q := (28, .iload_n 3, 29)) rfl
theorem c269_29 : pm_code 269 29 = some (.iaload, 30) := pm_of cl269_0 19 (q := (29, .iaload, 30)) rfl
theorem c269_30 : pm_code 269 30 = some (.istore 4, 32) := pm_of cl269_0 20 (q := (30, .istore 4, 32)) rfl
theorem c269_32 : pm_code 269 32 = some (.iload 4, 34) := pm_of cl269_0 21 (q := (32, .iload 4, 34)) rfl
theorem c269_34 : pm_code 269 34 = some (.iconst 1, 35) := pm_of cl269_0 22 (q := (34, .iconst 1, 35)) rfl
theorem c269_35 : pm_code 269 35 = some (.if_icmp .gt 40, 38) := pm_of cl269_0 23 (q := (35, .if_icmp .gt 40, 38)) rfl
theorem c269_38 : pm_code 269 38 = some (.aload_n 0, 39) := pm_of cl269_0 24 (q := (38, .aload_n 0, 39)) rfl
theorem c269_39 : pm_code 269 39 = some (.getfield 50, 42) := pm_of cl269_0 25 (q := (39, .getfield 50, 42)) rfl
theorem c269_42 : pm_code 269 42 = some (.iload_n 2, 43) := pm_of cl269_0 26 (q := (42, .iload_n 2, 43)) rfl
theorem c269_43 : pm_code 269 43 = some (.iload 4, 45) := pm_of cl269_0 27 (q := (43, .iload 4, 45)) rfl
theorem c269_45 : pm_code 269 45 = some (.ifCond .ne 12, 48) := pm_of cl269_0 28 (q := (45, .ifCond .ne 12, 48)) rfl
theorem c269_48 : pm_code 269 48 = some (.aload_n 0, 49) := pm_of cl269_0 29 (q := (48, .aload_n 0, 49)) rfl
theorem c269_49 : pm_code 269 49 = some (.getfield 44, 52) := pm_of cl269_0 30 (q := (49, .getfield 44, 52)) rfl
theorem c269_52 : pm_code 269 52 = some (.iload_n 3, 53) := pm_of cl269_0 31 (q := (52, .iload_n 3, 53)) rfl
theorem c269_53 : pm_code 269 53 = some (.iaload, 54) := pm_of cl269_0 32 (q := (53, .iaload, 54)) rfl
theorem c269_54 : pm_code 269 54 = some (.goto 14, 57) := pm_of cl269_0 33 (q := (54, .goto 14, 57)) rfl
theorem c269_57 : pm_code 269 57 = some (.aload_n 0, 58) := pm_of cl269_0 34 (q := (57, .aload_n 0, 58)) rfl
theorem c269_58 : pm_code 269 58 = some (.getfield 53, 61) := pm_of cl269_0 35 (q := (58, .getfield 53, 61)) rfl
theorem c269_61 : pm_code 269 61 = some (.aload_n 0, 62) := pm_of cl269_0 36 (q := (61, .aload_n 0, 62)) rfl
theorem c269_62 : pm_code 269 62 = some (.getfield 44, 65) := pm_of cl269_0 37 (q := (62, .getfield 44, 65)) rfl
theorem c269_65 : pm_code 269 65 = some (.iload_n 3, 66) := pm_of cl269_0 38 (q := (65, .iload_n 3, 66)) rfl
theorem c269_66 : pm_code 269 66 = some (.iaload, 67) := pm_of cl269_0 39 (q := (66, .iaload, 67)) rfl
theorem cl269_1 : ([(67, .iaload, 68), (68, .iastore, 69), (69, .iinc 2 1, 72), (72, .goto 33, 75), (75, .iinc 2 (-1), 78), (78, .aload_n 0, 79), (79, .getfield 50, 82), (82, .iload_n 2, 83), (83, .iconst 1, 84), (84, .isub, 85), (85, .iload 4, 87), (87, .aload_n 0, 88), (88, .getfield 50, 91), (91, .iload_n 2, 92), (92, .iconst 1, 93), (93, .isub, 94), (94, .iaload, 95), (95, .aload_n 0, 96), (96, .getfield 50, 99), (99, .iload_n 2, 100), (100, .iaload, 101), (101, .invokestatic 294, 104), (104, .iastore, 105), (105, .iinc 3 1, 108), (108, .goto (-100), 111), (111, .aload_n 0, 112), (112, .getfield 50, 115), (115, .iconst 0, 116), (116, .iaload, 117), (117, .ireturn, 118)] : List (Nat × Instr × Nat)).all (fun q => decide (pm_code 269 q.1 = some q.2)) = true := by decide +kernel
theorem c269_67 : pm_code 269 67 = some (.iaload, 68) := pm_of cl269_1 0 (q := (67, .iaload, 68)) rfl
theorem c269_68 : pm_code 269 68 = some (.iastore, 69) := pm_of cl269_1 1 (q := (68, .iastore, 69)) rfl
theorem c269_69 : pm_code 269 69 = some (.iinc 2 1, 72) := pm_of cl269_1 2 (q := (69, .iinc 2 1, 72)) rfl
theorem c269_72 : pm_code 269 72 = some (.goto 33, 75) := pm_of cl269_1 3 (q := (72, .goto 33, 75)) rfl
theorem c269_75 : pm_code 269 75 = some (.iinc 2 (-1), 78) := pm_of cl269_1 4 (q := (75, .iinc 2 (-1), 78)) rfl
theorem c269_78 : pm_code 269 78 = some (.aload_n 0, 79) := pm_of cl269_1 5 (q := (78, .aload_n 0, 79)) rfl
theorem c269_79 : pm_code 269 79 = some (.getfield 50, 82) := pm_of cl269_1 6 (q := (79, .getfield 50, 82)) rfl
theorem c269_82 : pm_code 269 82 = some (.iload_n 2, 83) := pm_of cl269_1 7 (q := (82, .iload_n 2, 83)) rfl
theorem c269_83 : pm_code 269 83 = some (.iconst 1, 84) := pm_of cl269_1 8 (q := (83, .iconst 1, 84)) rfl
theorem c269_84 : pm_code 269 84 = some (.isub, 85) := pm_of cl269_1 9 (q := (84, .isub, 85)) rfl
theorem c269_85 : pm_code 269 85 = some (.iload 4, 87) := pm_of cl269_1 10 (q := (85, .iload 4, 87)) rfl
theorem c269_87 : pm_code 269 87 = some (.aload_n 0, 88) := pm_of cl269_1 11 (q := (87, .aload_n 0, 88)) rfl
theorem c269_88 : pm_code 269 88 = some (.getfield 50, 91) := pm_of cl269_1 12 (q := (88, .getfield 50, 91)) rfl
theorem c269_91 : pm_code 269 91 = some (.iload_n 2, 92) := pm_of cl269_1 13 (q := (91, .iload_n 2, 92)) rfl
theorem c269_92 : pm_code 269 92 = some (.iconst 1, 93) := pm_of cl269_1 14 (q := (92, .iconst 1, 93)) rfl
theorem c269_93 : pm_code 269 93 = some (.isub, 94) := pm_of cl269_1 15 (q := (93, .isub, 94)) rfl
theorem c269_94 : pm_code 269 94 = some (.iaload, 95) := pm_of cl269_1 16 (q := (94, .iaload, 95)) rfl
theorem c269_95 : pm_code 269 95 = some (.aload_n 0, 96) := pm_of cl269_1 17 (q := (95, .aload_n 0, 96)) rfl
theorem c269_96 : pm_code 269 96 = some (.getfield 50, 99) := pm_of cl269_1 18 (q := (96, .getfield 50, 99)) rfl
theorem c269_99 : pm_code 269 99 = some (.iload_n 2, 100) := pm_of cl269_1 19 (q := (99, .iload_n 2, 100)) rfl
theorem c269_100 : pm_code 269 100 = some (.iaload, 101) := pm_of cl269_1 20 (q := (100, .iaload, 101)) rfl
theorem c269_101 : pm_code 269 101 = some (.invokestatic 294, 104) := pm_of cl269_1 21 (q := (101, .invokestatic 294, 104)) rfl
theorem c269_104 : pm_code 269 104 = some (.iastore, 105) := pm_of cl269_1 22 (q := (104, .iastore, 105)) rfl
theorem c269_105 : pm_code 269 105 = some (.iinc 3 1, 108) := pm_of cl269_1 23 (q := (105, .iinc 3 1, 108)) rfl
theorem c269_108 : pm_code 269 108 = some (.goto (-100), 111) := pm_of cl269_1 24 (q := (108, .goto (-100), 111)) rfl
theorem c269_111 : pm_code 269 111 = some (.aload_n 0, 112) := pm_of cl269_1 25 (q := (111, .aload_n 0, 112)) rfl
theorem c269_112 : pm_code 269 112 = some (.getfield 50, 115) := pm_of cl269_1 26 (q := (112, .getfield 50, 115)) rfl
theorem c269_115 : pm_code 269 115 = some (.iconst 0, 116) := pm_of cl269_1 27 (q := (115, .iconst 0, 116)) rfl
theorem c269_116 : pm_code 269 116 = some (.iaload, 117) := pm_of cl269_1 28 (q := (116, .iaload, 117)) rfl
theorem c269_117 : pm_code 269 117 = some (.ireturn, 118) := pm_of cl269_1 29 (q := (117, .ireturn, 118)) rfl
theorem k270 : pm_k 270 = 12 := by decide +kernel
theorem ml270 : pm_ml 270 = 3 := by decide +kernel
theorem rt270 : pm_rt 270 = (some .int) := by decide +kernel
theorem hh270 : pm_hh 270 = [] := by decide +kernel
theorem rc270 : pm_cl 12 = (pm_y 270).cls := by decide +kernel
theorem cl270_0 : ([(0, .iload_n 0, 1), (1, .iconst 2, 2), (2, .if_icmp .ne 7, 5), (5, .iload_n 1, 6), (6, .iload_n 2, 7), (7, .iadd, 8), (8, .ireturn, 9), (9, .iload_n 0, 10), (10, .iconst 3, 11), (11, .if_icmp .ne 7, 14), (14, .iload_n 1, 15), (15, .iload_n 2, 16), (16, .isub, 17), (17, .ireturn, 18), (18, .iload_n 0, 19), (19, .iconst 4, 20), (20, .if_icmp .ne 7, 23), (23, .iload_n 1, 24), (24, .iload_n 2, 25), (25, .imul, 26), (26, .ireturn, 27), (27, .iload_n 0, 28), (28, .iconst 5, 29), (29, .if_icmp .ne 15, 32), (32, .iload_n 2, 33), (33, .ifCond .ne 7, 36), (36, .iconst 0, 37), (37, .goto 6, 40), (40, .iload_n 1, 41), (41, .iload_n 2, 42), (42, .idiv, 43), (43, .ireturn, 44), (44, .iload_n 1, 45), (45, .iload_n 2, 46), (46, .if_icmp .ge 7, 49), (49, .iconst 1, 50), (50, .goto 4, 53), (53, .iconst 0, 54), (54, .iload_n 0, 55), (55, .bipush 6, 57)] : List (Nat × Instr × Nat)).all (fun q => decide (pm_code 270 q.1 = some q.2)) = true := by decide +kernel
theorem c270_0 : pm_code 270 0 = some (.iload_n 0, 1) := pm_of cl270_0 0 (q := (0, .iload_n 0, 1)) rfl
theorem c270_1 : pm_code 270 1 = some (.iconst 2, 2) := pm_of cl270_0 1 (q := (1, .iconst 2, 2)) rfl
theorem c270_2 : pm_code 270 2 = some (.if_icmp .ne 7, 5) := pm_of cl270_0 2 (q := (2, .if_icmp .ne 7, 5)) rfl
theorem c270_5 : pm_code 270 5 = some (.iload_n 1, 6) := pm_of cl270_0 3 (q := (5, .iload_n 1, 6)) rfl
theorem c270_6 : pm_code 270 6 = some (.iload_n 2, 7) := pm_of cl270_0 4 (q := (6, .iload_n 2, 7)) rfl
theorem c270_7 : pm_code 270 7 = some (.iadd, 8) := pm_of cl270_0 5 (q := (7, .iadd, 8)) rfl
theorem c270_8 : pm_code 270 8 = some (.ireturn, 9) := pm_of cl270_0 6 (q := (8, .ireturn, 9)) rfl
theorem c270_9 : pm_code 270 9 = some (.iload_n 0, 10) := pm_of cl270_0 7 (q := (9, .iload_n 0, 10)) rfl
theorem c270_10 : pm_code 270 10 = some (.iconst 3, 11) := pm_of cl270_0 8 (q := (10, .iconst 3, 11)) rfl
theorem c270_11 : pm_code 270 11 = some (.if_icmp .ne 7, 14) := pm_of cl270_0 9 (q := (11, .if_icmp .ne 7, 14)) rfl
theorem c270_14 : pm_code 270 14 = some (.iload_n 1, 15) := pm_of cl270_0 10 (q := (14, .iload_n 1, 15)) rfl
theorem c270_15 : pm_code 270 15 = some (.iload_n 2, 16) := pm_of cl270_0 11 (q := (15, .iload_n 2, 16)) rfl
theorem c270_16 : pm_code 270 16 = some (.isub, 17) := pm_of cl270_0 12 (q := (16, .isub, 17)) rfl
theorem c270_17 : pm_code 270 17 = some (.ireturn, 18) := pm_of cl270_0 13 (q := (17, .ireturn, 18)) rfl
theorem c270_18 : pm_code 270 18 = some (.iload_n 0, 19) := pm_of cl270_0 14 (q := (18, .iload_n 0, 19)) rfl
theorem c270_19 : pm_code 270 19 = some (.iconst 4, 20) := pm_of cl270_0 15 (q := (19, .iconst 4, 20)) rfl
theorem c270_20 : pm_code 270 20 = some (.if_icmp .ne 7, 23) := pm_of cl270_0 16 (q := (20, .if_icmp .ne 7, 23)) rfl
theorem c270_23 : pm_code 270 23 = some (.iload_n 1, 24) := pm_of cl270_0 17 (q := (23, .iload_n 1, 24)) rfl
theorem c270_24 : pm_code 270 24 = some (.iload_n 2, 25) := pm_of cl270_0 18 (q := (24, .iload_n 2, 25)) rfl
theorem c270_25 : pm_code 270 25 = some (.imul, 26) := pm_of cl270_0 19 (q := (25, .imul, 26)) rfl
theorem c270_26 : pm_code 270 26 = some (.ireturn, 27) := pm_of cl270_0 20 (q := (26, .ireturn, 27)) rfl
theorem c270_27 : pm_code 270 27 = some (.iload_n 0, 28) := pm_of cl270_0 21 (q := (27, .iload_n 0, 28)) rfl
theorem c270_28 : pm_code 270 28 = some (.iconst 5, 29) := pm_of cl270_0 22 (q := (28, .iconst 5, 29)) rfl
theorem c270_29 : pm_code 270 29 = some (.if_icmp .ne 15, 32) := pm_of cl270_0 23 (q := (29, .if_icmp .ne 15, 32)) rfl
theorem c270_32 : pm_code 270 32 = some (.iload_n 2, 33) := pm_of cl270_0 24 (q := (32, .iload_n 2, 33)) rfl
theorem c270_33 : pm_code 270 33 = some (.ifCond .ne 7, 36) := pm_of cl270_0 25 (q := (33, .ifCond .ne 7, 36)) rfl
theorem c270_36 : pm_code 270 36 = some (.iconst 0, 37) := pm_of cl270_0 26 (q := (36, .iconst 0, 37)) rfl
theorem c270_37 : pm_code 270 37 = some (.goto 6, 40) := pm_of cl270_0 27 (q := (37, .goto 6, 40)) rfl
theorem c270_40 : pm_code 270 40 = some (.iload_n 1, 41) := pm_of cl270_0 28 (q := (40, .iload_n 1, 41)) rfl
theorem c270_41 : pm_code 270 41 = some (.iload_n 2, 42) := pm_of cl270_0 29 (q := (41, .iload_n 2, 42)) rfl
theorem c270_42 : pm_code 270 42 = some (.idiv, 43) := pm_of cl270_0 30 (q := (42, .idiv, 43)) rfl
theorem c270_43 : pm_code 270 43 = some (.ireturn, 44) := pm_of cl270_0 31 (q := (43, .ireturn, 44)) rfl
theorem c270_44 : pm_code 270 44 = some (.iload_n 1, 45) := pm_of cl270_0 32 (q := (44, .iload_n 1, 45)) rfl
theorem c270_45 : pm_code 270 45 = some (.iload_n 2, 46) := pm_of cl270_0 33 (q := (45, .iload_n 2, 46)) rfl
theorem c270_46 : pm_code 270 46 = some (.if_icmp .ge 7, 49) := pm_of cl270_0 34 (q := (46, .if_icmp .ge 7, 49)) rfl
theorem c270_49 : pm_code 270 49 = some (.iconst 1, 50) := pm_of cl270_0 35 (q := (49, .iconst 1, 50)) rfl
theorem c270_50 : pm_code 270 50 = some (.goto 4, 53) := pm_of cl270_0 36 (q := (50, .goto 4, 53)) rfl
theorem c270_53 : pm_code 270 53 = some (.iconst 0, 54) := pm_of cl270_0 37 (q := (53, .iconst 0, 54)) rfl
theorem c270_54 : pm_code 270 54 = some (.iload_n 0, 55) := pm_of cl270_0 38 (q := (54, .iload_n 0, 55)) rfl
theorem c270_55 : pm_code 270 55 = some (.bipush 6, 57) := pm_of cl270_0 39 (q := (55, .bipush 6, 57)) rfl
theorem cl270_1 : ([(57, .if_icmp .ne 7, 60), (60, .iconst 1, 61), (61, .goto 4, 64), (64, .iconst 0, 65), (65, .if_icmp .ne 7, 68), (68, .iload_n 1, 69), (69, .goto 4, 72), (72, .iload_n 2, 73), (73, .ireturn, 74)] : List (Nat × Instr × Nat)).all (fun q => decide (pm_code 270 q.1 = some q.2)) = true := by decide +kernel
theorem c270_57 : pm_code 270 57 = some (.if_icmp .ne 7, 60) := pm_of cl270_1 0 (q := (57, .if_icmp .ne 7, 60)) rfl
theorem c270_60 : pm_code 270 60 = some (.iconst 1, 61) := pm_of cl270_1 1 (q := (60, .iconst 1, 61)) rfl
theorem c270_61 : pm_code 270 61 = some (.goto 4, 64) := pm_of cl270_1 2 (q := (61, .goto 4, 64)) rfl
theorem c270_64 : pm_code 270 64 = some (.iconst 0, 65) := pm_of cl270_1 3 (q := (64, .iconst 0, 65)) rfl
theorem c270_65 : pm_code 270 65 = some (.if_icmp .ne 7, 68) := pm_of cl270_1 4 (q := (65, .if_icmp .ne 7, 68)) rfl
theorem c270_68 : pm_code 270 68 = some (.iload_n 1, 69) := pm_of cl270_1 5 (q := (68, .iload_n 1, 69)) rfl
theorem c270_69 : pm_code 270 69 = some (.goto 4, 72) := pm_of cl270_1 6 (q := (69, .goto 4, 72)) rfl
theorem c270_72 : pm_code 270 72 = some (.iload_n 2, 73) := pm_of cl270_1 7 (q := (72, .iload_n 2, 73)) rfl
theorem c270_73 : pm_code 270 73 = some (.ireturn, 74) := pm_of cl270_1 8 (q := (73, .ireturn, 74)) rfl
theorem k271 : pm_k 271 = 12 := by decide +kernel
theorem ml271 : pm_ml 271 = 2 := by decide +kernel
theorem rt271 : pm_rt 271 = none := by decide +kernel
theorem hh271 : pm_hh 271 = [] := by decide +kernel
theorem rc271 : pm_cl 12 = (pm_y 271).cls := by decide +kernel
theorem cl271_0 : ([(0, .aload_n 0, 1), (1, .getfield 65, 4), (4, .iconst 0, 5), (5, .iload_n 1, 6), (6, .iadd, 7), (7, .iconst 3, 8), (8, .iastore, 9), (9, .aload_n 0, 10), (10, .getfield 65, 13), (13, .bipush 8, 15), (15, .iload_n 1, 16), (16, .iadd, 17), (17, .iconst (-1), 18), (18, .iastore, 19), (19, .return_, 20)] : List (Nat × Instr × Nat)).all (fun q => decide (pm_code 271 q.1 = some q.2)) = true := by decide +kernel
theorem c271_0 : pm_code 271 0 = some (.aload_n 0, 1) := pm_of cl271_0 0 (q := (0, .aload_n 0, 1)) rfl
theorem c271_1 : pm_code 271 1 = some (.getfield 65, 4) := pm_of cl271_0 1 (q := (1, .getfield 65, 4)) rfl
theorem c271_4 : pm_code 271 4 = some (.iconst 0, 5) := pm_of cl271_0 2 (q := (4, .iconst 0, 5)) rfl
theorem c271_5 : pm_code 271 5 = some (.iload_n 1, 6) := pm_of cl271_0 3 (q := (5, .iload_n 1, 6)) rfl
theorem c271_6 : pm_code 271 6 = some (.iadd, 7) := pm_of cl271_0 4 (q := (6, .iadd, 7)) rfl
theorem c271_7 : pm_code 271 7 = some (.iconst 3, 8) := pm_of cl271_0 5 (q := (7, .iconst 3, 8)) rfl
theorem c271_8 : pm_code 271 8 = some (.iastore, 9) := pm_of cl271_0 6 (q := (8, .iastore, 9)) rfl
theorem c271_9 : pm_code 271 9 = some (.aload_n 0, 10) := pm_of cl271_0 7 (q := (9, .aload_n 0, 10)) rfl
theorem c271_10 : pm_code 271 10 = some (.getfield 65, 13) := pm_of cl271_0 8 (q := (10, .getfield 65, 13)) rfl
theorem c271_13 : pm_code 271 13 = some (.bipush 8, 15) := pm_of cl271_0 9 (q := (13, .bipush 8, 15)) rfl
theorem c271_15 : pm_code 271 15 = some (.iload_n 1, 16) := pm_of cl271_0 10 (q := (15, .iload_n 1, 16)) rfl
theorem c271_16 : pm_code 271 16 = some (.iadd, 17) := pm_of cl271_0 11 (q := (16, .iadd, 17)) rfl
theorem c271_17 : pm_code 271 17 = some (.iconst (-1), 18) := pm_of cl271_0 12 (q := (17, .iconst (-1), 18)) rfl
theorem c271_18 : pm_code 271 18 = some (.iastore, 19) := pm_of cl271_0 13 (q := (18, .iastore, 19)) rfl
theorem c271_19 : pm_code 271 19 = some (.return_, 20) := pm_of cl271_0 14 (q := (19, .return_, 20)) rfl
theorem k272 : pm_k 272 = 12 := by decide +kernel
theorem ml272 : pm_ml 272 = 2 := by decide +kernel
theorem rt272 : pm_rt 272 = none := by decide +kernel
theorem hh272 : pm_hh 272 = [] := by decide +kernel
theorem rc272 : pm_cl 12 = (pm_y 272).cls := by decide +kernel
theorem cl272_0 : ([(0, .iconst 0, 1), (1, .istore_n 1, 2), (2, .iload_n 1, 3), (3, .aload_n 0, 4), (4, .getfield 169, 7), (7, .if_icmp .ge 105, 10), (10, .aload_n 0, 11), (11, .getfield 65, 14), (14, .iconst 0, 15), (15, .iload_n 1, 16), (16, .iadd, 17), (17, .iaload, 18), (18, .iconst 2, 19), (19, .if_icmp .ne 26, 22), (22, .aload_n 0, 23), (23, .getfield 65, 26), (26, .bipush 16, 28), (28, .iload_n 1, 29), (29, .iadd, 30), (30, .dup2, 31), (31, .iaload, 32), (32, .iconst 1, 33), (33, .iadd, 34), (34, .iastore, 35), (35, .aload_n 0, 36), (36, .dup, 37), (37, .getfield 354, 40), (40, .iconst 1, 41), (41, .iadd, 42), (42, .putfield 354, 45), (45, .aload_n 0, 46), (46, .getfield 65, 49), (49, .iconst 0, 50), (50, .iload_n 1, 51), (51, .iadd, 52), (52, .iaload, 53), (53, .ifCond .eq 6, 56), (56, .goto 50, 59), (59, .aload_n 0, 60), (60, .getfield 65, 63)] : List (Nat × Instr × Nat)).all (fun q => decide (pm_code 272 q.1 = some q.2)) = true := by decide +kernel
theorem c272_0 : pm_code 272 0 = some (.iconst 0, 1) := pm_of cl272_0 0 (q := (0, .iconst 0, 1)) rfl
theorem c272_1 : pm_code 272 1 = some (.istore_n 1, 2) := pm_of cl272_0 1 (q := (1, .istore_n 1, 2)) rfl
theorem c272_2 : pm_code 272 2 = some (.iload_n 1, 3) := pm_of cl272_0 2 (q := (2, .iload_n 1, 3)) rfl
theorem c272_3 : pm_code 272 3 = some (.aload_n 0, 4) := pm_of cl272_0 3 (q := (3, .aload_n 0, 4)) rfl
theorem c272_4 : pm_code 272 4 = some (.getfield 169, 7) := pm_of cl272_0 4 (q := (4, .getfield 169, 7)) rfl
theorem c272_7 : pm_code 272 7 = some (.if_icmp .ge 105, 10) := pm_of cl272_0 5 (q := (7, .if_icmp .ge 105, 10)) rfl
theorem c272_10 : pm_code 272 10 = some (.aload_n 0, 11) := pm_of cl272_0 6 (q := (10, .aload_n 0, 11)) rfl
theorem c272_11 : pm_code 272 11 = some (.getfield 65, 14) := pm_of cl272_0 7 (q := (11, .getfield 65, 14)) rfl
theorem c272_14 : pm_code 272 14 = some (.iconst 0, 15) := pm_of cl272_0 8 (q := (14, .iconst 0, 15)) rfl
theorem c272_15 : pm_code 272 15 = some (.iload_n 1, 16) := pm_of cl272_0 9 (q := (15, .iload_n 1, 16)) rfl
theorem c272_16 : pm_code 272 16 = some (.iadd, 17) := pm_of cl272_0 10 (q := (16, .iadd, 17)) rfl
theorem c272_17 : pm_code 272 17 = some (.iaload, 18) := pm_of cl272_0 11 (q := (17, .iaload, 18)) rfl
theorem c272_18 : pm_code 272 18 = some (.iconst 2, 19) := pm_of cl272_0 12 (q := (18, .iconst 2, 19)) rfl
theorem c272_19 : pm_code 272 19 = some (.if_icmp .ne 26, 22) := pm_of cl272_0 13 (q := (19, .if_icmp .ne 26, 22)) rfl
theorem c272_22 : pm_code 272 22 = some (.aload_n 0, 23) := pm_of cl272_0 14 (q := (22, .aload_n 0, 23)) rfl
theorem c272_23 : pm_code 272 23 = some (.getfield 65, 26) := pm_of cl272_0 15 (q := (23, .getfield 65, 26)) rfl
theorem c272_26 : pm_code 272 26 = some (.bipush 16, 28) := pm_of cl272_0 16 (q := (26, .bipush 16, 28)) rfl
theorem c272_28 : pm_code 272 28 = some (.iload_n 1, 29) := pm_of cl272_0 17 (q := (28, .iload_n 1, 29)) rfl
theorem c272_29 : pm_code 272 29 = some (.iadd, 30) := pm_of cl272_0 18 (q := (29, .iadd, 30)) rfl
theorem c272_30 : pm_code 272 30 = some (.dup2, 31) := pm_of cl272_0 19 (q := (30, .dup2, 31)) rfl
theorem c272_31 : pm_code 272 31 = some (.iaload, 32) := pm_of cl272_0 20 (q := (31, .iaload, 32)) rfl
theorem c272_32 : pm_code 272 32 = some (.iconst 1, 33) := pm_of cl272_0 21 (q := (32, .iconst 1, 33)) rfl
theorem c272_33 : pm_code 272 33 = some (.iadd, 34) := pm_of cl272_0 22 (q := (33, .iadd, 34)) rfl
theorem c272_34 : pm_code 272 34 = some (.iastore, 35) := pm_of cl272_0 23 (q := (34, .iastore, 35)) rfl
theorem c272_35 : pm_code 272 35 = some (.aload_n 0, 36) := pm_of cl272_0 24 (q := (35, .aload_n 0, 36)) rfl
theorem c272_36 : pm_code 272 36 = some (.dup, 37) := pm_of cl272_0 25 (q := (36, .dup, 37)) rfl
theorem c272_37 : pm_code 272 37 = some (.getfield 354, 40) := pm_of cl272_0 26 (q := (37, .getfield 354, 40)) rfl
theorem c272_40 : pm_code 272 40 = some (.iconst 1, 41) := pm_of cl272_0 27 (q := (40, .iconst 1, 41)) rfl
theorem c272_41 : pm_code 272 41 = some (.iadd, 42) := pm_of cl272_0 28 (q := (41, .iadd, 42)) rfl
theorem c272_42 : pm_code 272 42 = some (.putfield 354, 45) := pm_of cl272_0 29 (q := (42, .putfield 354, 45)) rfl
theorem c272_45 : pm_code 272 45 = some (.aload_n 0, 46) := pm_of cl272_0 30 (q := (45, .aload_n 0, 46)) rfl
theorem c272_46 : pm_code 272 46 = some (.getfield 65, 49) := pm_of cl272_0 31 (q := (46, .getfield 65, 49)) rfl
theorem c272_49 : pm_code 272 49 = some (.iconst 0, 50) := pm_of cl272_0 32 (q := (49, .iconst 0, 50)) rfl
theorem c272_50 : pm_code 272 50 = some (.iload_n 1, 51) := pm_of cl272_0 33 (q := (50, .iload_n 1, 51)) rfl
theorem c272_51 : pm_code 272 51 = some (.iadd, 52) := pm_of cl272_0 34 (q := (51, .iadd, 52)) rfl
theorem c272_52 : pm_code 272 52 = some (.iaload, 53) := pm_of cl272_0 35 (q := (52, .iaload, 53)) rfl
theorem c272_53 : pm_code 272 53 = some (.ifCond .eq 6, 56) := pm_of cl272_0 36 (q := (53, .ifCond .eq 6, 56)) rfl
theorem c272_56 : pm_code 272 56 = some (.goto 50, 59) := pm_of cl272_0 37 (q := (56, .goto 50, 59)) rfl
theorem c272_59 : pm_code 272 59 = some (.aload_n 0, 60) := pm_of cl272_0 38 (q := (59, .aload_n 0, 60)) rfl
theorem c272_60 : pm_code 272 60 = some (.getfield 65, 63) := pm_of cl272_0 39 (q := (60, .getfield 65, 63)) rfl
theorem cl272_1 : ([(63, .bipush 65, 65), (65, .iaload, 66), (66, .ifCond .le 17, 69), (69, .aload_n 0, 70), (70, .getfield 65, 73), (73, .bipush 65, 75), (75, .dup2, 76), (76, .iaload, 77), (77, .iconst 1, 78), (78, .isub, 79), (79, .iastore, 80), (80, .goto 26, 83), (83, .aload_n 0, 84), (84, .getfield 65, 87), (87, .bipush 32, 89), (89, .iload_n 1, 90), (90, .iadd, 91), (91, .dup2, 92), (92, .iaload, 93), (93, .iconst 1, 94), (94, .iadd, 95), (95, .iastore, 96), (96, .aload_n 0, 97), (97, .dup, 98), (98, .getfield 351, 101), (101, .iconst 1, 102), (102, .iadd, 103), (103, .putfield 351, 106), (106, .iinc 1 1, 109), (109, .goto (-107), 112), (112, .aload_n 0, 113), (113, .getfield 65, 116), (116, .bipush 64, 118), (118, .dup2, 119), (119, .iaload, 120), (120, .iconst 1, 121), (121, .iadd, 122), (122, .iastore, 123), (123, .iconst 0, 124), (124, .istore_n 1, 125)] : List (Nat × Instr × Nat)).all (fun q => decide (pm_code 272 q.1 = some q.2)) = true := by decide +kernel
theorem c272_63 : pm_code 272 63 = some (.bipush 65, 65) := pm_of cl272_1 0 (q := (63, .bipush 65, 65)) rfl
theorem c272_65 : pm_code 272 65 = some (.iaload, 66) := pm_of cl272_1 1 (q := (65, .iaload, 66)) rfl
theorem c272_66 : pm_code 272 66 = some (.ifCond .le 17, 69) := pm_of cl272_1 2 (q := (66, .ifCond .le 17, 69)) rfl
theorem c272_69 : pm_code 272 69 = some (.aload_n 0, 70) := pm_of cl272_1 3 (q := (69, .aload_n 0, 70)) rfl
theorem c272_70 : pm_code 272 70 = some (.getfield 65, 73) := pm_of cl272_1 4 (q := (70, .getfield 65, 73)) rfl
theorem c272_73 : pm_code 272 73 = some (.bipush 65, 75) := pm_of cl272_1 5 (q := (73, .bipush 65, 75)) rfl
theorem c272_75 : pm_code 272 75 = some (.dup2, 76) := pm_of cl272_1 6 (q := (75, .dup2, 76)) rfl
theorem c272_76 : pm_code 272 76 = some (.iaload, 77) := pm_of cl272_1 7 (q := (76, .iaload, 77)) rfl
theorem c272_77 : pm_code 272 77 = some (.iconst 1, 78) := pm_of cl272_1 8 (q := (77, .iconst 1, 78)) rfl
theorem c272_78 : pm_code 272 78 = some (.isub, 79) := pm_of cl272_1 9 (q := (78, .isub, 79)) rfl
theorem c272_79 : pm_code 272 79 = some (.iastore, 80) := pm_of cl272_1 10 (q := (79, .iastore, 80)) rfl
theorem c272_80 : pm_code 272 80 = some (.goto 26, 83) := pm_of cl272_1 11 (q := (80, .goto 26, 83)) rfl
theorem c272_83 : pm_code 272 83 = some (.aload_n 0, 84) := pm_of cl272_1 12 (q := (83, .aload_n 0, 84)) rfl
theorem c272_84 : pm_code 272 84 = some (.getfield 65, 87) := pm_of cl272_1 13 (q := (84, .getfield 65, 87)) rfl
theorem c272_87 : pm_code 272 87 = some (.bipush 32, 89) := pm_of cl272_1 14 (q := (87, .bipush 32, 89)) rfl
theorem c272_89 : pm_code 272 89 = some (.iload_n 1, 90) := pm_of cl272_1 15 (q := (89, .iload_n 1, 90)) rfl
theorem c272_90 : pm_code 272 90 = some (.iadd, 91) := pm_of cl272_1 16 (q := (90, .iadd, 91)) rfl
theorem c272_91 : pm_code 272 91 = some (.dup2, 92) := pm_of cl272_1 17 (q := (91, .dup2, 92)) rfl
theorem c272_92 : pm_code 272 92 = some (.iaload, 93) := pm_of cl272_1 18 (q := (92, .iaload, 93)) rfl
theorem c272_93 : pm_code 272 93 = some (.iconst 1, 94) := pm_of cl272_1 19 (q := (93, .iconst 1, 94)) rfl
theorem c272_94 : pm_code 272 94 = some (.iadd, 95) := pm_of cl272_1 20 (q := (94, .iadd, 95)) rfl
theorem c272_95 : pm_code 272 95 = some (.iastore, 96) := pm_of cl272_1 21 (q := (95, .iastore, 96)) rfl
theorem c272_96 : pm_code 272 96 = some (.aload_n 0, 97) := pm_of cl272_1 22 (q := (96, .aload_n 0, 97)) rfl
theorem c272_97 : pm_code 272 97 = some (.dup, 98) := pm_of cl272_1 23 (q := (97, .dup, 98)) rfl
theorem c272_98 : pm_code 272 98 = some (.getfield 351, 101) := pm_of cl272_1 24 (q := (98, .getfield 351, 101)) rfl
theorem c272_101 : pm_code 272 101 = some (.iconst 1, 102) := pm_of cl272_1 25 (q := (101, .iconst 1, 102)) rfl
theorem c272_102 : pm_code 272 102 = some (.iadd, 103) := pm_of cl272_1 26 (q := (102, .iadd, 103)) rfl
theorem c272_103 : pm_code 272 103 = some (.putfield 351, 106) := pm_of cl272_1 27 (q := (103, .putfield 351, 106)) rfl
theorem c272_106 : pm_code 272 106 = some (.iinc 1 1, 109) := pm_of cl272_1 28 (q := (106, .iinc 1 1, 109)) rfl
theorem c272_109 : pm_code 272 109 = some (.goto (-107), 112) := pm_of cl272_1 29 (q := (109, .goto (-107), 112)) rfl
theorem c272_112 : pm_code 272 112 = some (.aload_n 0, 113) := pm_of cl272_1 30 (q := (112, .aload_n 0, 113)) rfl
theorem c272_113 : pm_code 272 113 = some (.getfield 65, 116) := pm_of cl272_1 31 (q := (113, .getfield 65, 116)) rfl
theorem c272_116 : pm_code 272 116 = some (.bipush 64, 118) := pm_of cl272_1 32 (q := (116, .bipush 64, 118)) rfl
theorem c272_118 : pm_code 272 118 = some (.dup2, 119) := pm_of cl272_1 33 (q := (118, .dup2, 119)) rfl
theorem c272_119 : pm_code 272 119 = some (.iaload, 120) := pm_of cl272_1 34 (q := (119, .iaload, 120)) rfl
theorem c272_120 : pm_code 272 120 = some (.iconst 1, 121) := pm_of cl272_1 35 (q := (120, .iconst 1, 121)) rfl
theorem c272_121 : pm_code 272 121 = some (.iadd, 122) := pm_of cl272_1 36 (q := (121, .iadd, 122)) rfl
theorem c272_122 : pm_code 272 122 = some (.iastore, 123) := pm_of cl272_1 37 (q := (122, .iastore, 123)) rfl
theorem c272_123 : pm_code 272 123 = some (.iconst 0, 124) := pm_of cl272_1 38 (q := (123, .iconst 0, 124)) rfl
theorem c272_124 : pm_code 272 124 = some (.istore_n 1, 125) := pm_of cl272_1 39 (q := (124, .istore_n 1, 125)) rfl
theorem cl272_2 : ([(125, .iload_n 1, 126), (126, .aload_n 0, 127), (127, .getfield 169, 130), (130, .if_icmp .ge 34, 133), (133, .aload_n 0, 134), (134, .getfield 65, 137), (137, .iconst 0, 138), (138, .iload_n 1, 139), (139, .iadd, 140), (140, .iaload, 141), (141, .iconst 2, 142), (142, .if_icmp .ne 16, 145), (145, .aload_n 0, 146), (146, .iload_n 1, 147), (147, .invokevirtual 380, 150), (150, .ifCond .ne 8, 153), (153, .aload_n 0, 154), (154, .iload_n 1, 155), (155, .invokevirtual 386, 158), (158, .iinc 1 1, 161), (161, .goto (-36), 164), (164, .return_, 165)] : List (Nat × Instr × Nat)).all (fun q => decide (pm_code 272 q.1 = some q.2)) = true := by decide +kernel
theorem c272_125 : pm_code 272 125 = some (.iload_n 1, 126) := pm_of cl272_2 0 (q := (125, .iload_n 1, 126)) rfl
theorem c272_126 : pm_code 272 126 = some (.aload_n 0, 127) := pm_of cl272_2 1 (q := (126, .aload_n 0, 127)) rfl
theorem c272_127 : pm_code 272 127 = some (.getfield 169, 130) := pm_of cl272_2 2 (q := (127, .getfield 169, 130)) rfl
theorem c272_130 : pm_code 272 130 = some (.if_icmp .ge 34, 133) := pm_of cl272_2 3 (q := (130, .if_icmp .ge 34, 133)) rfl
theorem c272_133 : pm_code 272 133 = some (.aload_n 0, 134) := pm_of cl272_2 4 (q := (133, .aload_n 0, 134)) rfl
theorem c272_134 : pm_code 272 134 = some (.getfield 65, 137) := pm_of cl272_2 5 (q := (134, .getfield 65, 137)) rfl
theorem c272_137 : pm_code 272 137 = some (.iconst 0, 138) := pm_of cl272_2 6 (q := (137, .iconst 0, 138)) rfl
theorem c272_138 : pm_code 272 138 = some (.iload_n 1, 139) := pm_of cl272_2 7 (q := (138, .iload_n 1, 139)) rfl
theorem c272_139 : pm_code 272 139 = some (.iadd, 140) := pm_of cl272_2 8 (q := (139, .iadd, 140)) rfl
theorem c272_140 : pm_code 272 140 = some (.iaload, 141) := pm_of cl272_2 9 (q := (140, .iaload, 141)) rfl
theorem c272_141 : pm_code 272 141 = some (.iconst 2, 142) := pm_of cl272_2 10 (q := (141, .iconst 2, 142)) rfl
theorem c272_142 : pm_code 272 142 = some (.if_icmp .ne 16, 145) := pm_of cl272_2 11 (q := (142, .if_icmp .ne 16, 145)) rfl
theorem c272_145 : pm_code 272 145 = some (.aload_n 0, 146) := pm_of cl272_2 12 (q := (145, .aload_n 0, 146)) rfl
theorem c272_146 : pm_code 272 146 = some (.iload_n 1, 147) := pm_of cl272_2 13 (q := (146, .iload_n 1, 147)) rfl
theorem c272_147 : pm_code 272 147 = some (.invokevirtual 380, 150) := pm_of cl272_2 14 (q := (147, .invokevirtual 380, 150)) rfl
theorem c272_150 : pm_code 272 150 = some (.ifCond .ne 8, 153) := pm_of cl272_2 15 (q := (150, .ifCond .ne 8, 153)) rfl
theorem c272_153 : pm_code 272 153 = some (.aload_n 0, 154) := pm_of cl272_2 16 (q := (153, .aload_n 0, 154)) rfl
theorem c272_154 : pm_code 272 154 = some (.iload_n 1, 155) := pm_of cl272_2 17 (q := (154, .iload_n 1, 155)) rfl
theorem c272_155 : pm_code 272 155 = some (.invokevirtual 386, 158) := pm_of cl272_2 18 (q := (155, .invokevirtual 386, 158)) rfl
theorem c272_158 : pm_code 272 158 = some (.iinc 1 1, 161) := pm_of cl272_2 19 (q := (158, .iinc 1 1, 161)) rfl
theorem c272_161 : pm_code 272 161 = some (.goto (-36), 164) := pm_of cl272_2 20 (q := (161, .goto (-36), 164)) rfl
theorem c272_164 : pm_code 272 164 = some (.return_, 165) := pm_of cl272_2 21 (q := (164, .return_, 165)) rfl
theorem k273 : pm_k 273 = 12 := by decide +kernel
theorem ml273 : pm_ml 273 = 6 := by decide +kernel
theorem rt273 : pm_rt 273 = (some .int) := by decide +kernel
theorem hh273 : pm_hh 273 = [] := by decide +kernel
theorem rc273 : pm_cl 12 = (pm_y 273).cls := by decide +kernel
theorem cl273_0 : ([(0, .aload_n 0, 1), (1, .iconst 0, 2), (2, .putfield 3, 5), (5, .aload_n 0, 6), (6, .iload_n 1, 7), (7, .ifCond .lt 21, 10), (10, .iload_n 1, 11), (11, .aload_n 0, 12), (12, .getfield 111, 15), (15, .if_icmp .gt 13, 18), (18, .iload_n 1, 19), (19, .bipush 100, 21), (21, .if_icmp .gt 7, 24), (24, .iconst 1, 25), (25, .goto 4, 28), (28, .iconst 0, 29), (29, .iconst 1, 30), (30, .iconst 1, 31), (31, .invokevirtual 207, 34), (34, .ifCond .ne 5, 37), (37, .iconst 0, 38), (38, .ireturn, 39), (39, .aload_n 0, 40), (40, .iload_n 1, 41), (41, .invokevirtual 211, 44), (44, .iconst 0, 45), (45, .istore_n 2, 46), (46, .aload_n 0, 47), (47, .invokevirtual 143, 50), (50, .ifCond .eq 140, 53), (53, .aload_n 0, 54), (54, .invokevirtual 215, 57), (57, .ifCond .eq 133, 60), (60, .aload_n 0, 61), (61, .getfield 120, 64), (64, .istore_n 3, 65), (65, .aload_n 0, 66), (66, .iconst 0, 67), (67, .sipush 499, 70), (70, .invokevirtual 199, 73)] : List (Nat × Instr × Nat)).all (fun q => decide (pm_code 273 q.1 = some q.2)) = true := by decide +kernel
theorem c273_0 : pm_code 273 0 = some (.aload_n 0, 1) := pm_of cl273_0 0 (q := (0, .aload_n 0, 1)) rfl
theorem c273_1 : pm_code 273 1 = some (.iconst 0, 2) := pm_of cl273_0 1 (q := (1, .iconst 0, 2)) rfl
theorem c273_2 : pm_code 273 2 = some (.putfield 3, 5) := pm_of cl273_0 2 (q := (2, .putfield 3, 5)) rfl
theorem c273_5 : pm_code 273 5 = some (.aload_n 0, 6) := pm_of cl273_0 3 (q := (5, .aload_n 0, 6)) rfl
theorem c273_6 : pm_code 273 6 = some (.iload_n 1, 7) := pm_of cl273_0 4 (q := (6, .iload_n 1, 7)) rfl
theorem c273_7 : pm_code 273 7 = some (.ifCond .lt 21, 10) := pm_of cl273_0 5 (q := (7, .ifCond .lt 21, 10)) rfl
theorem c273_10 : pm_code 273 10 = some (.iload_n 1, 11) := pm_of cl273_0 6 (q := (10, .iload_n 1, 11)) rfl
theorem c273_11 : pm_code 273 11 = some (.aload_n 0, 12) := pm_of cl273_0 7 (q := (11, .aload_n 0, 12)) rfl
theorem c273_12 : pm_code 273 12 = some (.getfield 111, 15) := pm_of cl273_0 8 (q := (12, .getfield 111, 15)) rfl
theorem c273_15 : pm_code 273 15 = some (.if_icmp .gt 13, 18) := pm_of cl273_0 9 (q := (15, .if_icmp .gt 13, 18)) rfl
theorem c273_18 : pm_code 273 18 = some (.iload_n 1, 19) := pm_of cl273_0 10 (q := (18, .iload_n 1, 19)) rfl
theorem c273_19 : pm_code 273 19 = some (.bipush 100, 21) := pm_of cl273_0 11 (q := (19, .bipush 100, 21)) rfl
theorem c273_21 : pm_code 273 21 = some (.if_icmp .gt 7, 24) := pm_of cl273_0 12 (q := (21, .if_icmp .gt 7, 24)) rfl
theorem c273_24 : pm_code 273 24 = some (.iconst 1, 25) := pm_of cl273_0 13 (q := (24, .iconst 1, 25)) rfl
theorem c273_25 : pm_code 273 25 = some (.goto 4, 28) := pm_of cl273_0 14 (q := (25, .goto 4, 28)) rfl
theorem c273_28 : pm_code 273 28 = some (.iconst 0, 29) := pm_of cl273_0 15 (q := (28, .iconst 0, 29)) rfl
theorem c273_29 : pm_code 273 29 = some (.iconst 1, 30) := pm_of cl273_0 16 (q := (29, .iconst 1, 30)) rfl
theorem c273_30 : pm_code 273 30 = some (.iconst 1, 31) := pm_of cl273_0 17 (q := (30, .iconst 1, 31)) rfl
theorem c273_31 : pm_code 273 31 = some (.invokevirtual 207, 34) := pm_of cl273_0 18 (q := (31, .invokevirtual 207, 34)) rfl
theorem c273_34 : pm_code 273 34 = some (.ifCond .ne 5, 37) := pm_of cl273_0 19 (q := (34, .ifCond .ne 5, 37)) rfl
theorem c273_37 : pm_code 273 37 = some (.iconst 0, 38) := pm_of cl273_0 20 (q := (37, .iconst 0, 38)) rfl
theorem c273_38 : pm_code 273 38 = some (.ireturn, 39) := pm_of cl273_0 21 (q := (38, .ireturn, 39)) rfl
theorem c273_39 : pm_code 273 39 = some (.aload_n 0, 40) := pm_of cl273_0 22 (q := (39, .aload_n 0, 40)) rfl
theorem c273_40 : pm_code 273 40 = some (.iload_n 1, 41) := pm_of cl273_0 23 (q := (40, .iload_n 1, 41)) rfl
theorem c273_41 : pm_code 273 41 = some (.invokevirtual 211, 44) := pm_of cl273_0 24 (q := (41, .invokevirtual 211, 44)) rfl
theorem c273_44 : pm_code 273 44 = some (.iconst 0, 45) := pm_of cl273_0 25 (q := (44, .iconst 0, 45)) rfl
theorem c273_45 : pm_code 273 45 = some (.istore_n 2, 46) := pm_of cl273_0 26 (q := (45, .istore_n 2, 46)) rfl
theorem c273_46 : pm_code 273 46 = some (.aload_n 0, 47) := pm_of cl273_0 27 (q := (46, .aload_n 0, 47)) rfl
theorem c273_47 : pm_code 273 47 = some (.invokevirtual 143, 50) := pm_of cl273_0 28 (q := (47, .invokevirtual 143, 50)) rfl
theorem c273_50 : pm_code 273 50 = some (.ifCond .eq 140, 53) := pm_of cl273_0 29 (q := (50, .ifCond .eq 140, 53)) rfl
theorem c273_53 : pm_code 273 53 = some (.aload_n 0, 54) := pm_of cl273_0 30 (q := (53, .aload_n 0, 54)) rfl
theorem c273_54 : pm_code 273 54 = some (.invokevirtual 215, 57) := pm_of cl273_0 31 (q := (54, .invokevirtual 215, 57)) rfl
theorem c273_57 : pm_code 273 57 = some (.ifCond .eq 133, 60) := pm_of cl273_0 32 (q := (57, .ifCond .eq 133, 60)) rfl
theorem c273_60 : pm_code 273 60 = some (.aload_n 0, 61) := pm_of cl273_0 33 (q := (60, .aload_n 0, 61)) rfl
theorem c273_61 : pm_code 273 61 = some (.getfield 120, 64) := pm_of cl273_0 34 (q := (61, .getfield 120, 64)) rfl
theorem c273_64 : pm_code 273 64 = some (.istore_n 3, 65) := pm_of cl273_0 35 (q := (64, .istore_n 3, 65)) rfl
theorem c273_65 : pm_code 273 65 = some (.aload_n 0, 66) := pm_of cl273_0 36 (q := (65, .aload_n 0, 66)) rfl
theorem c273_66 : pm_code 273 66 = some (.iconst 0, 67) := pm_of cl273_0 37 (q := (66, .iconst 0, 67)) rfl
theorem c273_67 : pm_code 273 67 = some (.sipush 499, 70) := pm_of cl273_0 38 (q := (67, .sipush 499, 70)) rfl
theorem c273_70 : pm_code 273 70 = some (.invokevirtual 199, 73) := pm_of cl273_0 39 (q := (70, .invokevirtual 199, 73)) rfl
theorem cl273_1 : ([(73, .istore 4, 75), (75, .iconst 0, 76), (76, .istore 5, 78), (78, .iload 5, 80), (80, .iload_n 2, 81), (81, .if_icmp .ge 36, 84), (84, .aload_n 0, 85), (85, .invokevirtual 143, 88), (88, .ifCond .eq 29, 91), (91, .aload_n 0, 92), (92, .getfield 71, 95), (95, .iconst 2, 96), (96, .iload 5, 98), (98, .imul, 99), (99, .iaload, 100), (100, .iload 4, 102), (102, .if_icmp .ne 9, 105), (105, .aload_n 0, 106), (106, .iconst 2, 107), (107, .iload_n 3, 108), (108, .invokevirtual 150, 111), (111, .iinc 5 1, 114), (114, .goto (-36), 117), (117, .aload_n 0, 118), (118, .invokevirtual 143, 121), (121, .ifCond .eq 15, 124), (124, .iload_n 2, 125), (125, .bipush 8, 127), (127, .if_icmp .ne 9, 130), (130, .aload_n 0, 131), (131, .iconst 3, 132), (132, .iload_n 3, 133), (133, .invokevirtual 150, 136), (136, .aload_n 0, 137), (137, .iconst 0, 138), (138, .sipush 999, 141), (141, .invokevirtual 199, 144), (144, .istore 5, 146), (146, .aload_n 0, 147), (147, .bipush 59, 149)] : List (Nat × Instr × Nat)).all (fun q => decide (pm_code 273 q.1 = some q.2)) = true := by decide +kernel
theorem c273_73 : pm_code 273 73 = some (.istore 4, 75) := pm_of cl273_1 0 (q := (73, .istore 4, 75)) rfl
theorem c273_75 : pm_code 273 75 = some (.iconst 0, 76) := pm_of cl273_1 1 (q := (75, .iconst 0, 76)) rfl
theorem c273_76 : pm_code 273 76 = some (.istore 5, 78) := pm_of cl273_1 2 (q := (76, .istore 5, 78)) rfl
theorem c273_78 : pm_code 273 78 = some (.iload 5, 80) := pm_of cl273_1 3 (q := (78, .iload 5, 80)) rfl
theorem c273_80 : pm_code 273 80 = some (.iload_n 2, 81) := pm_of cl273_1 4 (q := (80, .iload_n 2, 81)) rfl
theorem c273_81 : pm_code 273 81 = some (.if_icmp .ge 36, 84) := pm_of cl273_1 5 (q := (81, .if_icmp .ge 36, 84)) rfl
theorem c273_84 : pm_code 273 84 = some (.aload_n 0, 85) := pm_of cl273_1 6 (q := (84, .aload_n 0, 85)) rfl
theorem c273_85 : pm_code 273 85 = some (.invokevirtual 143, 88) := pm_of cl273_1 7 (q := (85, .invokevirtual 143, 88)) rfl
theorem c273_88 : pm_code 273 88 = some (.ifCond .eq 29, 91) := pm_of cl273_1 8 (q := (88, .ifCond .eq 29, 91)) rfl
theorem c273_91 : pm_code 273 91 = some (.aload_n 0, 92) := pm_of cl273_1 9 (q := (91, .aload_n 0, 92)) rfl
theorem c273_92 : pm_code 273 92 = some (.getfield 71, 95) := pm_of cl273_1 10 (q := (92, .getfield 71, 95)) rfl
theorem c273_95 : pm_code 273 95 = some (.iconst 2, 96) := pm_of cl273_1 11 (q := (95, .iconst 2, 96)) rfl
theorem c273_96 : pm_code 273 96 = some (.iload 5, 98) := pm_of cl273_1 12 (q := (96, .iload 5, 98)) rfl
theorem c273_98 : pm_code 273 98 = some (.imul, 99) := pm_of cl273_1 13 (q := (98, .imul, 99)) rfl
theorem c273_99 : pm_code 273 99 = some (.iaload, 100) := pm_of cl273_1 14 (q := (99, .iaload, 100)) rfl
theorem c273_100 : pm_code 273 100 = some (.iload 4, 102) := pm_of cl273_1 15 (q := (100, .iload 4, 102)) rfl
theorem c273_102 : pm_code 273 102 = some (.if_icmp .ne 9, 105) := pm_of cl273_1 16 (q := (102, .if_icmp .ne 9, 105)) rfl
theorem c273_105 : pm_code 273 105 = some (.aload_n 0, 106) := pm_of cl273_1 17 (q := (105, .aload_n 0, 106)) rfl
theorem c273_106 : pm_code 273 106 = some (.iconst 2, 107) := pm_of cl273_1 18 (q := (106, .iconst 2, 107)) rfl
theorem c273_107 : pm_code 273 107 = some (.iload_n 3, 108) := pm_of cl273_1 19 (q := (107, .iload_n 3, 108)) rfl
theorem c273_108 : pm_code 273 108 = some (.invokevirtual 150, 111) := pm_of cl273_1 20 (q := (108, .invokevirtual 150, 111)) rfl
theorem c273_111 : pm_code 273 111 = some (.iinc 5 1, 114) := pm_of cl273_1 21 (q := (111, .iinc 5 1, 114)) rfl
theorem c273_114 : pm_code 273 114 = some (.goto (-36), 117) := pm_of cl273_1 22 (q := (114, .goto (-36), 117)) rfl
theorem c273_117 : pm_code 273 117 = some (.aload_n 0, 118) := pm_of cl273_1 23 (q := (117, .aload_n 0, 118)) rfl
theorem c273_118 : pm_code 273 118 = some (.invokevirtual 143, 121) := pm_of cl273_1 24 (q := (118, .invokevirtual 143, 121)) rfl
theorem c273_121 : pm_code 273 121 = some (.ifCond .eq 15, 124) := pm_of cl273_1 25 (q := (121, .ifCond .eq 15, 124)) rfl
theorem c273_124 : pm_code 273 124 = some (.iload_n 2, 125) := pm_of cl273_1 26 (q := (124, .iload_n 2, 125)) rfl
theorem c273_125 : pm_code 273 125 = some (.bipush 8, 127) := pm_of cl273_1 27 (q := (125, .bipush 8, 127)) rfl
theorem c273_127 : pm_code 273 127 = some (.if_icmp .ne 9, 130) := pm_of cl273_1 28 (q := (127, .if_icmp .ne 9, 130)) rfl
theorem c273_130 : pm_code 273 130 = some (.aload_n 0, 131) := pm_of cl273_1 29 (q := (130, .aload_n 0, 131)) rfl
theorem c273_131 : pm_code 273 131 = some (.iconst 3, 132) := pm_of cl273_1 30 (q := (131, .iconst 3, 132)) rfl
theorem c273_132 : pm_code 273 132 = some (.iload_n 3, 133) := pm_of cl273_1 31 (q := (132, .iload_n 3, 133)) rfl
theorem c273_133 : pm_code 273 133 = some (.invokevirtual 150, 136) := pm_of cl273_1 32 (q := (133, .invokevirtual 150, 136)) rfl
theorem c273_136 : pm_code 273 136 = some (.aload_n 0, 137) := pm_of cl273_1 33 (q := (136, .aload_n 0, 137)) rfl
theorem c273_137 : pm_code 273 137 = some (.iconst 0, 138) := pm_of cl273_1 34 (q := (137, .iconst 0, 138)) rfl
theorem c273_138 : pm_code 273 138 = some (.sipush 999, 141) := pm_of cl273_1 35 (q := (138, .sipush 999, 141)) rfl
theorem c273_141 : pm_code 273 141 = some (.invokevirtual 199, 144) := pm_of cl273_1 36 (q := (141, .invokevirtual 199, 144)) rfl
theorem c273_144 : pm_code 273 144 = some (.istore 5, 146) := pm_of cl273_1 37 (q := (144, .istore 5, 146)) rfl
theorem c273_146 : pm_code 273 146 = some (.aload_n 0, 147) := pm_of cl273_1 38 (q := (146, .aload_n 0, 147)) rfl
theorem c273_147 : pm_code 273 147 = some (.bipush 59, 149) := pm_of cl273_1 39 (q := (147, .bipush 59, 149)) rfl
theorem cl273_2 : ([(149, .invokevirtual 239, 152), (152, .aload_n 0, 153), (153, .invokevirtual 143, 156), (156, .ifCond .ne 6, 159), (159, .goto 31, 162), (162, .aload_n 0, 163), (163, .getfield 71, 166), (166, .iconst 2, 167), (167, .iload_n 2, 168), (168, .imul, 169), (169, .iload 4, 171), (171, .iastore, 172), (172, .aload_n 0, 173), (173, .getfield 71, 176), (176, .iconst 2, 177), (177, .iload_n 2, 178), (178, .imul, 179), (179, .iconst 1, 180), (180, .iadd, 181), (181, .iload 5, 183), (183, .iastore, 184), (184, .iinc 2 1, 187), (187, .goto (-141), 190), (190, .aload_n 0, 191), (191, .iload_n 2, 192), (192, .invokevirtual 242, 195), (195, .istore_n 3, 196), (196, .aload_n 0, 197), (197, .getfield 114, 200), (200, .iconst (-1), 201), (201, .if_icmp .eq 5, 204), (204, .iload_n 3, 205), (205, .ireturn, 206), (206, .aload_n 0, 207), (207, .iload_n 2, 208), (208, .putfield 182, 211), (211, .aload_n 0, 212), (212, .aload_n 0, 213), (213, .getfield 71, 216), (216, .aload_n 0, 217)] : List (Nat × Instr × Nat)).all (fun q => decide (pm_code 273 q.1 = some q.2)) = true := by decide +kernel
theorem c273_149 : pm_code 273 149 = some (.invokevirtual 239, 152) := pm_of cl273_2 0 (q := (149, .invokevirtual 239, 152)) rfl
theorem c273_152 : pm_code 273 152 = some (.aload_n 0, 153) := pm_of cl273_2 1 (q := (152, .aload_n 0, 153)) rfl
theorem c273_153 : pm_code 273 153 = some (.invokevirtual 143, 156) := pm_of cl273_2 2 (q := (153, .invokevirtual 143, 156)) rfl
theorem c273_156 : pm_code 273 156 = some (.ifCond .ne 6, 159) := pm_of cl273_2 3 (q := (156, .ifCond .ne 6, 159)) rfl
theorem c273_159 : pm_code 273 159 = some (.goto 31, 162) := pm_of cl273_2 4 (q := (159, .goto 31, 162)) rfl
theorem c273_162 : pm_code 273 162 = some (.aload_n 0, 163) := pm_of cl273_2 5 (q := (162, .aload_n 0, 163)) rfl
theorem c273_163 : pm_code 273 163 = some (.getfield 71, 166) := pm_of cl273_2 6 (q := (163, .getfield 71, 166)) rfl
theorem c273_166 : pm_code 273 166 = some (.iconst 2, 167) := pm_of cl273_2 7 (q := (166, .iconst 2, 167)) rfl
theorem c273_167 : pm_code 273 167 = some (.iload_n 2, 168) := pm_of cl273_2 8 (q := (167, .iload_n 2, 168)) rfl
theorem c273_168 : pm_code 273 168 = some (.imul, 169) := pm_of cl273_2 9 (q := (168, .imul, 169)) rfl
theorem c273_169 : pm_code 273 169 = some (.iload 4, 171) := pm_of cl273_2 10 (q := (169, .iload 4, 171)) rfl
theorem c273_171 : pm_code 273 171 = some (.iastore, 172) := pm_of cl273_2 11 (q := (171, .iastore, 172)) rfl
theorem c273_172 : pm_code 273 172 = some (.aload_n 0, 173) := pm_of cl273_2 12 (q := (172, .aload_n 0, 173)) rfl
theorem c273_173 : pm_code 273 173 = some (.getfield 71, 176) := pm_of cl273_2 13 (q := (173, .getfield 71, 176)) rfl
theorem c273_176 : pm_code 273 176 = some (.iconst 2, 177) := pm_of cl273_2 14 (q := (176, .iconst 2, 177)) rfl
theorem c273_177 : pm_code 273 177 = some (.iload_n 2, 178) := pm_of cl273_2 15 (q := (177, .iload_n 2, 178)) rfl
theorem c273_178 : pm_code 273 178 = some (.imul, 179) := pm_of cl273_2 16 (q := (178, .imul, 179)) rfl
theorem c273_179 : pm_code 273 179 = some (.iconst 1, 180) := pm_of cl273_2 17 (q := (179, .iconst 1, 180)) rfl
theorem c273_180 : pm_code 273 180 = some (.iadd, 181) := pm_of cl273_2 18 (q := (180, .iadd, 181)) rfl
theorem c273_181 : pm_code 273 181 = some (.iload 5, 183) := pm_of cl273_2 19 (q := (181, .iload 5, 183)) rfl
theorem c273_183 : pm_code 273 183 = some (.iastore, 184) := pm_of cl273_2 20 (q := (183, .iastore, 184)) rfl
theorem c273_184 : pm_code 273 184 = some (.iinc 2 1, 187) := pm_of cl273_2 21 (q := (184, .iinc 2 1, 187)) rfl
theorem c273_187 : pm_code 273 187 = some (.goto (-141), 190) := pm_of cl273_2 22 (q := (187, .goto (-141), 190)) rfl
theorem c273_190 : pm_code 273 190 = some (.aload_n 0, 191) := pm_of cl273_2 23 (q := (190, .aload_n 0, 191)) rfl
theorem c273_191 : pm_code 273 191 = some (.iload_n 2, 192) := pm_of cl273_2 24 (q := (191, .iload_n 2, 192)) rfl
theorem c273_192 : pm_code 273 192 = some (.invokevirtual 242, 195) := pm_of cl273_2 25 (q := (192, .invokevirtual 242, 195)) rfl
theorem c273_195 : pm_code 273 195 = some (.istore_n 3, 196) := pm_of cl273_2 26 (q := (195, .istore_n 3, 196)) rfl
theorem c273_196 : pm_code 273 196 = some (.aload_n 0, 197) := pm_of cl273_2 27 (q := (196, .aload_n 0, 197)) rfl
theorem c273_197 : pm_code 273 197 = some (.getfield 114, 200) := pm_of cl273_2 28 (q := (197, .getfield 114, 200)) rfl
theorem c273_200 : pm_code 273 200 = some (.iconst (-1), 201) := pm_of cl273_2 29 (q := (200, .iconst (-1), 201)) rfl
theorem c273_201 : pm_code 273 201 = some (.if_icmp .eq 5, 204) := pm_of cl273_2 30 (q := (201, .if_icmp .eq 5, 204)) rfl
theorem c273_204 : pm_code 273 204 = some (.iload_n 3, 205) := pm_of cl273_2 31 (q := (204, .iload_n 3, 205)) rfl
theorem c273_205 : pm_code 273 205 = some (.ireturn, 206) := pm_of cl273_2 32 (q := (205, .ireturn, 206)) rfl
theorem c273_206 : pm_code 273 206 = some (.aload_n 0, 207) := pm_of cl273_2 33 (q := (206, .aload_n 0, 207)) rfl
theorem c273_207 : pm_code 273 207 = some (.iload_n 2, 208) := pm_of cl273_2 34 (q := (207, .iload_n 2, 208)) rfl
theorem c273_208 : pm_code 273 208 = some (.putfield 182, 211) := pm_of cl273_2 35 (q := (208, .putfield 182, 211)) rfl
theorem c273_211 : pm_code 273 211 = some (.aload_n 0, 212) := pm_of cl273_2 36 (q := (211, .aload_n 0, 212)) rfl
theorem c273_212 : pm_code 273 212 = some (.aload_n 0, 213) := pm_of cl273_2 37 (q := (212, .aload_n 0, 213)) rfl
theorem c273_213 : pm_code 273 213 = some (.getfield 71, 216) := pm_of cl273_2 38 (q := (213, .getfield 71, 216)) rfl
theorem c273_216 : pm_code 273 216 = some (.aload_n 0, 217) := pm_of cl273_2 39 (q := (216, .aload_n 0, 217)) rfl
theorem cl273_3 : ([(217, .getfield 74, 220), (220, .iconst 2, 221), (221, .iload_n 2, 222), (222, .imul, 223), (223, .invokevirtual 178, 226), (226, .iload_n 3, 227), (227, .ireturn, 228)] : List (Nat × Instr × Nat)).all (fun q => decide (pm_code 273 q.1 = some q.2)) = true := by decide +kernel
theorem c273_217 : pm_code 273 217 = some (.getfield 74, 220) := pm_of cl273_3 0 (q := (217, .getfield 74, 220)) rfl
theorem c273_220 : pm_code 273 220 = some (.iconst 2, 221) := pm_of cl273_3 1 (q := (220, .iconst 2, 221)) rfl
theorem c273_221 : pm_code 273 221 = some (.iload_n 2, 222) := pm_of cl273_3 2 (q := (221, .iload_n 2, 222)) rfl
theorem c273_222 : pm_code 273 222 = some (.imul, 223) := pm_of cl273_3 3 (q := (222, .imul, 223)) rfl
theorem c273_223 : pm_code 273 223 = some (.invokevirtual 178, 226) := pm_of cl273_3 4 (q := (223, .invokevirtual 178, 226)) rfl
theorem c273_226 : pm_code 273 226 = some (.iload_n 3, 227) := pm_of cl273_3 5 (q := (226, .iload_n 3, 227)) rfl
theorem c273_227 : pm_code 273 227 = some (.ireturn, 228) := pm_of cl273_3 6 (q := (227, .ireturn, 228)) rfl
theorem k274 : pm_k 274 = 12 := by decide +kernel
theorem ml274 : pm_ml 274 = 2 := by decide +kernel
theorem rt274 : pm_rt 274 = (some .int) := by decide +kernel
theorem hh274 : pm_hh 274 = [] := by decide +kernel
theorem rc274 : pm_cl 12 = (pm_y 274).cls := by decide +kernel
theorem cl274_0 : ([(0, .aload_n 0, 1), (1, .iconst 0, 2), (2, .putfield 3, 5), (5, .aload_n 0, 6), (6, .getfield 185, 9), (9, .ifCond .ne 5, 12), (12, .iconst (-1), 13), (13, .ireturn, 14), (14, .aload_n 0, 15), (15, .dup, 16), (16, .getfield 185, 19), (19, .iconst 1, 20), (20, .isub, 21), (21, .putfield 185, 24), (24, .iconst 0, 25), (25, .istore_n 1, 26), (26, .iload_n 1, 27), (27, .bipush 66, 29), (29, .if_icmp .ge 29, 32), (32, .aload_n 0, 33), (33, .getfield 62, 36), (36, .iload_n 1, 37), (37, .aload_n 0, 38), (38, .getfield 68, 41), (41, .bipush 66, 43), (43, .aload_n 0, 44), (44, .getfield 185, 47), (47, .imul, 48), (48, .iload_n 1, 49), (49, .iadd, 50), (50, .iaload, 51), (51, .iastore, 52), (52, .iinc 1 1, 55), (55, .goto (-29), 58), (58, .aload_n 0, 59), (59, .iconst 0, 60), (60, .putfield 191, 63), (63, .aload_n 0, 64), (64, .getfield 185, 67), (67, .ireturn, 68)] : List (Nat × Instr × Nat)).all (fun q => decide (pm_code 274 q.1 = some q.2)) = true := by decide +kernel
theorem c274_0 : pm_code 274 0 = some (.aload_n 0, 1) := pm_of cl274_0 0 (q := (0, .aload_n 0, 1)) rfl
theorem c274_1 : pm_code 274 1 = some (.iconst 0, 2) := pm_of cl274_0 1 (q := (1, .iconst 0, 2)) rfl
theorem c274_2 : pm_code 274 2 = some (.putfield 3, 5) := pm_of cl274_0 2 (q := (2, .putfield 3, 5)) rfl
theorem c274_5 : pm_code 274 5 = some (.aload_n 0, 6) := pm_of cl274_0 3 (q := (5, .aload_n 0, 6)) rfl
theorem c274_6 : pm_code 274 6 = some (.getfield 185, 9) := pm_of cl274_0 4 (q := (6, .getfield 185, 9)) rfl
theorem c274_9 : pm_code 274 9 = some (.ifCond .ne 5, 12) := pm_of cl274_0 5 (q := (9, .ifCond .ne 5, 12)) rfl
theorem c274_12 : pm_code 274 12 = some (.iconst (-1), 13) := pm_of cl274_0 6 (q := (12, .iconst (-1), 13)) rfl
theorem c274_13 : pm_code 274 13 = some (.ireturn, 14) := pm_of cl274_0 7 (q := (13, .ireturn, 14)) rfl
theorem c274_14 : pm_code 274 14 = some (.aload_n 0, 15) := pm_of cl274_0 8 (q := (14, .aload_n 0, 15)) rfl
theorem c274_15 : pm_code 274 15 = some (.dup, 16) := pm_of cl274_0 9 (q := (15, .dup, 16)) rfl
theorem c274_16 : pm_code 274 16 = some (.getfield 185, 19) := pm_of cl274_0 10 (q := (16, .getfield 185, 19)) rfl
theorem c274_19 : pm_code 274 19 = some (.iconst 1, 20) := pm_of cl274_0 11 (q := (19, .iconst 1, 20)) rfl
theorem c274_20 : pm_code 274 20 = some (.isub, 21) := pm_of cl274_0 12 (q := (20, .isub, 21)) rfl
theorem c274_21 : pm_code 274 21 = some (.putfield 185, 24) := pm_of cl274_0 13 (q := (21, .putfield 185, 24)) rfl
theorem c274_24 : pm_code 274 24 = some (.iconst 0, 25) := pm_of cl274_0 14 (q := (24, .iconst 0, 25)) rfl
theorem c274_25 : pm_code 274 25 = some (.istore_n 1, 26) := pm_of cl274_0 15 (q := (25, .istore_n 1, 26)) rfl
theorem c274_26 : pm_code 274 26 = some (.iload_n 1, 27) := pm_of cl274_0 16 (q := (26, .iload_n 1, 27)) rfl
theorem c274_27 : pm_code 274 27 = some (.bipush 66, 29) := pm_of cl274_0 17 (q := (27, .bipush 66, 29)) rfl
theorem c274_29 : pm_code 274 29 = some (.if_icmp .ge 29, 32) := pm_of cl274_0 18 (q := (29, .if_icmp .ge 29, 32)) rfl
theorem c274_32 : pm_code 274 32 = some (.aload_n 0, 33) := pm_of cl274_0 19 (q := (32, .aload_n 0, 33)) rfl
theorem c274_33 : pm_code 274 33 = some (.getfield 62, 36) := pm_of cl274_0 20 (q := (33, .getfield 62, 36)) rfl
theorem c274_36 : pm_code 274 36 = some (.iload_n 1, 37) := pm_of cl274_0 21 (q := (36, .iload_n 1, 37)) rfl
theorem c274_37 : pm_code 274 37 = some (.aload_n 0, 38) := pm_of cl274_0 22 (q := (37, .aload_n 0, 38)) rfl
theorem c274_38 : pm_code 274 38 = some (.getfield 68, 41) := pm_of cl274_0 23 (q := (38, .getfield 68, 41)) rfl
theorem c274_41 : pm_code 274 41 = some (.bipush 66, 43) := pm_of cl274_0 24 (q := (41, .bipush 66, 43)) rfl
theorem c274_43 : pm_code 274 43 = some (.aload_n 0, 44) := pm_of cl274_0 25 (q := (43, .aload_n 0, 44)) rfl
theorem c274_44 : pm_code 274 44 = some (.getfield 185, 47) := pm_of cl274_0 26 (q := (44, .getfield 185, 47)) rfl
theorem c274_47 : pm_code 274 47 = some (.imul, 48) := pm_of cl274_0 27 (q := (47, .imul, 48)) rfl
theorem c274_48 : pm_code 274 48 = some (.iload_n 1, 49) := pm_of cl274_0 28 (q := (48, .iload_n 1, 49)) rfl
theorem c274_49 : pm_code 274 49 = some (.iadd, 50) := pm_of cl274_0 29 (q := (49, .iadd, 50)) rfl
theorem c274_50 : pm_code 274 50 = some (.iaload, 51) := pm_of cl274_0 30 (q := (50, .iaload, 51)) rfl
theorem c274_51 : pm_code 274 51 = some (.iastore, 52) := pm_of cl274_0 31 (q := (51, .iastore, 52)) rfl
theorem c274_52 : pm_code 274 52 = some (.iinc 1 1, 55) := pm_of cl274_0 32 (q := (52, .iinc 1 1, 55)) rfl
theorem c274_55 : pm_code 274 55 = some (.goto (-29), 58) := pm_of cl274_0 33 (q := (55, .goto (-29), 58)) rfl
theorem c274_58 : pm_code 274 58 = some (.aload_n 0, 59) := pm_of cl274_0 34 (q := (58, .aload_n 0, 59)) rfl
theorem c274_59 : pm_code 274 59 = some (.iconst 0, 60) := pm_of cl274_0 35 (q := (59, .iconst 0, 60)) rfl
theorem c274_60 : pm_code 274 60 = some (.putfield 191, 63) := pm_of cl274_0 36 (q := (60, .putfield 191, 63)) rfl
theorem c274_63 : pm_code 274 63 = some (.aload_n 0, 64) := pm_of cl274_0 37 (q := (63, .aload_n 0, 64)) rfl
theorem c274_64 : pm_code 274 64 = some (.getfield 185, 67) := pm_of cl274_0 38 (q := (64, .getfield 185, 67)) rfl
theorem c274_67 : pm_code 274 67 = some (.ireturn, 68) := pm_of cl274_0 39 (q := (67, .ireturn, 68)) rfl
theorem k275 : pm_k 275 = 12 := by decide +kernel
theorem ml275 : pm_ml 275 = 2 := by decide +kernel
theorem rt275 : pm_rt 275 = (some .int) := by decide +kernel
theorem hh275 : pm_hh 275 = [] := by decide +kernel
theorem rc275 : pm_cl 12 = (pm_y 275).cls := by decide +kernel
theorem cl275_0 : ([(0, .aload_n 0, 1), (1, .iconst 0, 2), (2, .putfield 3, 5), (5, .aload_n 0, 6), (6, .iload_n 1, 7), (7, .iconst 0, 8), (8, .bipush 10, 10), (10, .invokestatic 290, 13), (13, .iconst 1, 14), (14, .iconst 1, 15), (15, .invokevirtual 207, 18), (18, .ifCond .ne 5, 21), (21, .iconst 0, 22), (22, .ireturn, 23), (23, .aload_n 0, 24), (24, .invokevirtual 330, 27), (27, .iload_n 1, 28), (28, .iconst 4, 29), (29, .if_icmp .ge 49, 32), (32, .iload_n 1, 33), (33, .ifCond .ne 10, 36), (36, .aload_n 0, 37), (37, .getfield 169, 40), (40, .goto 37, 43), (43, .iload_n 1, 44), (44, .iconst 1, 45), (45, .if_icmp .ne 10, 48), (48, .aload_n 0, 49), (49, .getfield 172, 52), (52, .goto 25, 55), (55, .iload_n 1, 56), (56, .iconst 2, 57), (57, .if_icmp .ne 13, 60), (60, .aload_n 0, 61), (61, .getfield 65, 64), (64, .bipush 64, 66), (66, .iaload, 67), (67, .goto 10, 70), (70, .aload_n 0, 71), (71, .getfield 65, 74)] : List (Nat × Instr × Nat)).all (fun q => decide (pm_code 275 q.1 = some q.2)) = true := by decide +kernel
theorem c275_0 : pm_code 275 0 = some (.aload_n 0, 1) := pm_of cl275_0 0 (q := (0, .aload_n 0, 1)) rfl
theorem c275_1 : pm_code 275 1 = some (.iconst 0, 2) := pm_of cl275_0 1 (q := (1, .iconst 0, 2)) rfl
theorem c275_2 : pm_code 275 2 = some (.putfield 3, 5) := pm_of cl275_0 2 (q := (2, .putfield 3, 5)) rfl
theorem c275_5 : pm_code 275 5 = some (.aload_n 0, 6) := pm_of cl275_0 3 (q := (5, .aload_n 0, 6)) rfl
theorem c275_6 : pm_code 275 6 = some (.iload_n 1, 7) := pm_of cl275_0 4 (q := (6, .iload_n 1, 7)) rfl
theorem c275_7 : pm_code 275 7 = some (.iconst 0, 8) := pm_of cl275_0 5 (q := (7, .iconst 0, 8)) rfl
theorem c275_8 : pm_code 275 8 = some (.bipush 10, 10) := pm_of cl275_0 6 (q := (8, .bipush 10, 10)) rfl
theorem c275_10 : pm_code 275 10 = some (.invokestatic 290, 13) := pm_of cl275_0 7 (q := (10, .invokestatic 290, 13)) rfl
theorem c275_13 : pm_code 275 13 = some (.iconst 1, 14) := pm_of cl275_0 8 (q := (13, .iconst 1, 14)) rfl
theorem c275_14 : pm_code 275 14 = some (.iconst 1, 15) := pm_of cl275_0 9 (q := (14, .iconst 1, 15)) rfl
theorem c275_15 : pm_code 275 15 = some (.invokevirtual 207, 18) := pm_of cl275_0 10 (q := (15, .invokevirtual 207, 18)) rfl
theorem c275_18 : pm_code 275 18 = some (.ifCond .ne 5, 21) := pm_of cl275_0 11 (q := (18, .ifCond .ne 5, 21)) rfl
theorem c275_21 : pm_code 275 21 = some (.iconst 0, 22) := pm_of cl275_0 12 (q := (21, .iconst 0, 22)) rfl
theorem c275_22 : pm_code 275 22 = some (.ireturn, 23) := pm_of cl275_0 13 (q := (22, .ireturn, 23)) rfl
theorem c275_23 : pm_code 275 23 = some (.aload_n 0, 24) := pm_of cl275_0 14 (q := (23, .aload_n 0, 24)) rfl
theorem c275_24 : pm_code 275 24 = some (.invokevirtual 330, 27) := pm_of cl275_0 15 (q := (24, .invokevirtual 330, 27)) rfl
theorem c275_27 : pm_code 275 27 = some (.iload_n 1, 28) := pm_of cl275_0 16 (q := (27, .iload_n 1, 28)) rfl
theorem c275_28 : pm_code 275 28 = some (.iconst 4, 29) := pm_of cl275_0 17 (q := (28, .iconst 4, 29)) rfl
theorem c275_29 : pm_code 275 29 = some (.if_icmp .ge 49, 32) := pm_of cl275_0 18 (q := (29, .if_icmp .ge 49, 32)) rfl
theorem c275_32 : pm_code 275 32 = some (.iload_n 1, 33) := pm_of cl275_0 19 (q := (32, .iload_n 1, 33)) rfl
theorem c275_33 : pm_code 275 33 = some (.ifCond .ne 10, 36) := pm_of cl275_0 20 (q := (33, .ifCond .ne 10, 36)) rfl
theorem c275_36 : pm_code 275 36 = some (.aload_n 0, 37) := pm_of cl275_0 21 (q := (36, .aload_n 0, 37)) rfl
theorem c275_37 : pm_code 275 37 = some (.getfield 169, 40) := pm_of cl275_0 22 (q := (37, .getfield 169, 40)) rfl
theorem c275_40 : pm_code 275 40 = some (.goto 37, 43) := pm_of cl275_0 23 (q := (40, .goto 37, 43)) rfl
theorem c275_43 : pm_code 275 43 = some (.iload_n 1, 44) := pm_of cl275_0 24 (q := (43, .iload_n 1, 44)) rfl
theorem c275_44 : pm_code 275 44 = some (.iconst 1, 45) := pm_of cl275_0 25 (q := (44, .iconst 1, 45)) rfl
theorem c275_45 : pm_code 275 45 = some (.if_icmp .ne 10, 48) := pm_of cl275_0 26 (q := (45, .if_icmp .ne 10, 48)) rfl
theorem c275_48 : pm_code 275 48 = some (.aload_n 0, 49) := pm_of cl275_0 27 (q := (48, .aload_n 0, 49)) rfl
theorem c275_49 : pm_code 275 49 = some (.getfield 172, 52) := pm_of cl275_0 28 (q := (49, .getfield 172, 52)) rfl
theorem c275_52 : pm_code 275 52 = some (.goto 25, 55) := pm_of cl275_0 29 (q := (52, .goto 25, 55)) rfl
theorem c275_55 : pm_code 275 55 = some (.iload_n 1, 56) := pm_of cl275_0 30 (q := (55, .iload_n 1, 56)) rfl
theorem c275_56 : pm_code 275 56 = some (.iconst 2, 57) := pm_of cl275_0 31 (q := (56, .iconst 2, 57)) rfl
theorem c275_57 : pm_code 275 57 = some (.if_icmp .ne 13, 60) := pm_of cl275_0 32 (q := (57, .if_icmp .ne 13, 60)) rfl
theorem c275_60 : pm_code 275 60 = some (.aload_n 0, 61) := pm_of cl275_0 33 (q := (60, .aload_n 0, 61)) rfl
theorem c275_61 : pm_code 275 61 = some (.getfield 65, 64) := pm_of cl275_0 34 (q := (61, .getfield 65, 64)) rfl
theorem c275_64 : pm_code 275 64 = some (.bipush 64, 66) := pm_of cl275_0 35 (q := (64, .bipush 64, 66)) rfl
theorem c275_66 : pm_code 275 66 = some (.iaload, 67) := pm_of cl275_0 36 (q := (66, .iaload, 67)) rfl
theorem c275_67 : pm_code 275 67 = some (.goto 10, 70) := pm_of cl275_0 37 (q := (67, .goto 10, 70)) rfl
theorem c275_70 : pm_code 275 70 = some (.aload_n 0, 71) := pm_of cl275_0 38 (q := (70, .aload_n 0, 71)) rfl
theorem c275_71 : pm_code 275 71 = some (.getfield 65, 74) := pm_of cl275_0 39 (q := (71, .getfield 65, 74)) rfl
theorem cl275_1 : ([(74, .bipush 65, 76), (76, .iaload, 77), (77, .ireturn, 78), (78, .iload_n 1, 79), (79, .bipush 8, 81), (81, .if_icmp .ge 11, 84), (84, .aload_n 0, 85), (85, .iload_n 1, 86), (86, .iconst 4, 87), (87, .isub, 88), (88, .invokevirtual 374, 91), (91, .ireturn, 92), (92, .iload_n 1, 93), (93, .bipush 8, 95), (95, .if_icmp .ne 10, 98), (98, .aload_n 0, 99), (99, .getfield 182, 102), (102, .goto 20, 105), (105, .iload_n 1, 106), (106, .bipush 9, 108), (108, .if_icmp .ne 10, 111), (111, .aload_n 0, 112), (112, .getfield 191, 115), (115, .goto 7, 118), (118, .aload_n 0, 119), (119, .getfield 175, 122), (122, .ireturn, 123)] : List (Nat × Instr × Nat)).all (fun q => decide (pm_code 275 q.1 = some q.2)) = true := by decide +kernel
theorem c275_74 : pm_code 275 74 = some (.bipush 65, 76) := pm_of cl275_1 0 (q := (74, .bipush 65, 76)) rfl
theorem c275_76 : pm_code 275 76 = some (.iaload, 77) := pm_of cl275_1 1 (q := (76, .iaload, 77)) rfl
theorem c275_77 : pm_code 275 77 = some (.ireturn, 78) := pm_of cl275_1 2 (q := (77, .ireturn, 78)) rfl
theorem c275_78 : pm_code 275 78 = some (.iload_n 1, 79) := pm_of cl275_1 3 (q := (78, .iload_n 1, 79)) rfl
theorem c275_79 : pm_code 275 79 = some (.bipush 8, 81) := pm_of cl275_1 4 (q := (79, .bipush 8, 81)) rfl
theorem c275_81 : pm_code 275 81 = some (.if_icmp .ge 11, 84) := pm_of cl275_1 5 (q := (81, .if_icmp .ge 11, 84)) rfl
theorem c275_84 : pm_code 275 84 = some (.aload_n 0, 85) := pm_of cl275_1 6 (q := (84, .aload_n 0, 85)) rfl
theorem c275_85 : pm_code 275 85 = some (.iload_n 1, 86) := pm_of cl275_1 7 (q := (85, .iload_n 1, 86)) rfl
theorem c275_86 : pm_code 275 86 = some (.iconst 4, 87) := pm_of cl275_1 8 (q := (86, .iconst 4, 87)) rfl
theorem c275_87 : pm_code 275 87 = some (.isub, 88) := pm_of cl275_1 9 (q := (87, .isub, 88)) rfl
theorem c275_88 : pm_code 275 88 = some (.invokevirtual 374, 91) := pm_of cl275_1 10 (q := (88, .invokevirtual 374, 91)) rfl
theorem c275_91 : pm_code 275 91 = some (.ireturn, 92) := pm_of cl275_1 11 (q := (91, .ireturn, 92)) rfl
theorem c275_92 : pm_code 275 92 = some (.iload_n 1, 93) := pm_of cl275_1 12 (q := (92, .iload_n 1, 93)) rfl
theorem c275_93 : pm_code 275 93 = some (.bipush 8, 95) := pm_of cl275_1 13 (q := (93, .bipush 8, 95)) rfl
theorem c275_95 : pm_code 275 95 = some (.if_icmp .ne 10, 98) := pm_of cl275_1 14 (q := (95, .if_icmp .ne 10, 98)) rfl
theorem c275_98 : pm_code 275 98 = some (.aload_n 0, 99) := pm_of cl275_1 15 (q := (98, .aload_n 0, 99)) rfl
theorem c275_99 : pm_code 275 99 = some (.getfield 182, 102) := pm_of cl275_1 16 (q := (99, .getfield 182, 102)) rfl
theorem c275_102 : pm_code 275 102 = some (.goto 20, 105) := pm_of cl275_1 17 (q := (102, .goto 20, 105)) rfl
theorem c275_105 : pm_code 275 105 = some (.iload_n 1, 106) := pm_of cl275_1 18 (q := (105, .iload_n 1, 106)) rfl
theorem c275_106 : pm_code 275 106 = some (.bipush 9, 108) := pm_of cl275_1 19 (q := (106, .bipush 9, 108)) rfl
theorem c275_108 : pm_code 275 108 = some (.if_icmp .ne 10, 111) := pm_of cl275_1 20 (q := (108, .if_icmp .ne 10, 111)) rfl
theorem c275_111 : pm_code 275 111 = some (.aload_n 0, 112) := pm_of cl275_1 21 (q := (111, .aload_n 0, 112)) rfl
theorem c275_112 : pm_code 275 112 = some (.getfield 191, 115) := pm_of cl275_1 22 (q := (112, .getfield 191, 115)) rfl
theorem c275_115 : pm_code 275 115 = some (.goto 7, 118) := pm_of cl275_1 23 (q := (115, .goto 7, 118)) rfl
theorem c275_118 : pm_code 275 118 = some (.aload_n 0, 119) := pm_of cl275_1 24 (q := (118, .aload_n 0, 119)) rfl
theorem c275_119 : pm_code 275 119 = some (.getfield 175, 122) := pm_of cl275_1 25 (q := (119, .getfield 175, 122)) rfl
theorem c275_122 : pm_code 275 122 = some (.ireturn, 123) := pm_of cl275_1 26 (q := (122, .ireturn, 123)) rfl
theorem k276 : pm_k 276 = 12 := by decide +kernel
theorem ml276 : pm_ml 276 = 3 := by decide +kernel
theorem rt276 : pm_rt 276 = (some .int) := by decide +kernel
theorem hh276 : pm_hh 276 = [] := by decide +kernel
theorem rc276 : pm_cl 12 = (pm_y 276).cls := by decide +kernel
theorem cl276_0 : ([(0, .aload_n 0, 1), (1, .iconst 0, 2), (2, .putfield 3, 5), (5, .aload_n 0, 6), (6, .iload_n 1, 7), (7, .iconst 1, 8), (8, .invokevirtual 404, 11), (11, .ifCond .eq 19, 14), (14, .aload_n 0, 15), (15, .iload_n 2, 16), (16, .iconst 0, 17), (17, .bipush 9, 19), (19, .invokestatic 290, 22), (22, .iconst 2, 23), (23, .iconst 1, 24), (24, .invokevirtual 207, 27), (27, .ifCond .ne 5, 30), (30, .iconst 0, 31), (31, .ireturn, 32), (32, .iload_n 2, 33), (33, .iconst 3, 34), (34, .if_icmp .ge 14, 37), (37, .aload_n 0, 38), (38, .getfield 29, 41), (41, .iconst 4, 42), (42, .iload_n 1, 43), (43, .imul, 44), (44, .iload_n 2, 45), (45, .iadd, 46), (46, .iaload, 47), (47, .ireturn, 48), (48, .iload_n 2, 49), (49, .bipush 6, 51), (51, .if_icmp .ge 46, 54), (54, .iload_n 2, 55), (55, .iconst 3, 56), (56, .if_icmp .ne 14, 59), (59, .aload_n 0, 60), (60, .getfield 62, 63), (63, .iconst 0, 64)] : List (Nat × Instr × Nat)).all (fun q => decide (pm_code 276 q.1 = some q.2)) = true := by decide +kernel
theorem c276_0 : pm_code 276 0 = some (.aload_n 0, 1) := pm_of cl276_0 0 (q := (0, .aload_n 0, 1)) rfl
theorem c276_1 : pm_code 276 1 = some (.iconst 0, 2) := pm_of cl276_0 1 (q := (1, .iconst 0, 2)) rfl
theorem c276_2 : pm_code 276 2 = some (.putfield 3, 5) := pm_of cl276_0 2 (q := (2, .putfield 3, 5)) rfl
theorem c276_5 : pm_code 276 5 = some (.aload_n 0, 6) := pm_of cl276_0 3 (q := (5, .aload_n 0, 6)) rfl
theorem c276_6 : pm_code 276 6 = some (.iload_n 1, 7) := pm_of cl276_0 4 (q := (6, .iload_n 1, 7)) rfl
theorem c276_7 : pm_code 276 7 = some (.iconst 1, 8) := pm_of cl276_0 5 (q := (7, .iconst 1, 8)) rfl
theorem c276_8 : pm_code 276 8 = some (.invokevirtual 404, 11) := pm_of cl276_0 6 (q := (8, .invokevirtual 404, 11)) rfl
theorem c276_11 : pm_code 276 11 = some (.ifCond .eq 19, 14) := pm_of cl276_0 7 (q := (11, .ifCond .eq 19, 14)) rfl
theorem c276_14 : pm_code 276 14 = some (.aload_n 0, 15) := pm_of cl276_0 8 (q := (14, .aload_n 0, 15)) rfl
theorem c276_15 : pm_code 276 15 = some (.iload_n 2, 16) := pm_of cl276_0 9 (q := (15, .iload_n 2, 16)) rfl
theorem c276_16 : pm_code 276 16 = some (.iconst 0, 17) := pm_of cl276_0 10 (q := (16, .iconst 0, 17)) rfl
theorem c276_17 : pm_code 276 17 = some (.bipush 9, 19) := pm_of cl276_0 11 (q := (17, .bipush 9, 19)) rfl
theorem c276_19 : pm_code 276 19 = some (.invokestatic 290, 22) := pm_of cl276_0 12 (q := (19, .invokestatic 290, 22)) rfl
theorem c276_22 : pm_code 276 22 = some (.iconst 2, 23) := pm_of cl276_0 13 (q := (22, .iconst 2, 23)) rfl
theorem c276_23 : pm_code 276 23 = some (.iconst 1, 24) := pm_of cl276_0 14 (q := (23, .iconst 1, 24)) rfl
theorem c276_24 : pm_code 276 24 = some (.invokevirtual 207, 27) := pm_of cl276_0 15 (q := (24, .invokevirtual 207, 27)) rfl
theorem c276_27 : pm_code 276 27 = some (.ifCond .ne 5, 30) := pm_of cl276_0 16 (q := (27, .ifCond .ne 5, 30)) rfl
theorem c276_30 : pm_code 276 30 = some (.iconst 0, 31) := pm_of cl276_0 17 (q := (30, .iconst 0, 31)) rfl
theorem c276_31 : pm_code 276 31 = some (.ireturn, 32) := pm_of cl276_0 18 (q := (31, .ireturn, 32)) rfl
theorem c276_32 : pm_code 276 32 = some (.iload_n 2, 33) := pm_of cl276_0 19 (q := (32, .iload_n 2, 33)) rfl
theorem c276_33 : pm_code 276 33 = some (.iconst 3, 34) := pm_of cl276_0 20 (q := (33, .iconst 3, 34)) rfl
theorem c276_34 : pm_code 276 34 = some (.if_icmp .ge 14, 37) := pm_of cl276_0 21 (q := (34, .if_icmp .ge 14, 37)) rfl
theorem c276_37 : pm_code 276 37 = some (.aload_n 0, 38) := pm_of cl276_0 22 (q := (37, .aload_n 0, 38)) rfl
theorem c276_38 : pm_code 276 38 = some (.getfield 29, 41) := pm_of cl276_0 23 (q := (38, .getfield 29, 41)) rfl
theorem c276_41 : pm_code 276 41 = some (.iconst 4, 42) := pm_of cl276_0 24 (q := (41, .iconst 4, 42)) rfl
theorem c276_42 : pm_code 276 42 = some (.iload_n 1, 43) := pm_of cl276_0 25 (q := (42, .iload_n 1, 43)) rfl
theorem c276_43 : pm_code 276 43 = some (.imul, 44) := pm_of cl276_0 26 (q := (43, .imul, 44)) rfl
theorem c276_44 : pm_code 276 44 = some (.iload_n 2, 45) := pm_of cl276_0 27 (q := (44, .iload_n 2, 45)) rfl
theorem c276_45 : pm_code 276 45 = some (.iadd, 46) := pm_of cl276_0 28 (q := (45, .iadd, 46)) rfl
theorem c276_46 : pm_code 276 46 = some (.iaload, 47) := pm_of cl276_0 29 (q := (46, .iaload, 47)) rfl
theorem c276_47 : pm_code 276 47 = some (.ireturn, 48) := pm_of cl276_0 30 (q := (47, .ireturn, 48)) rfl
theorem c276_48 : pm_code 276 48 = some (.iload_n 2, 49) := pm_of cl276_0 31 (q := (48, .iload_n 2, 49)) rfl
theorem c276_49 : pm_code 276 49 = some (.bipush 6, 51) := pm_of cl276_0 32 (q := (49, .bipush 6, 51)) rfl
theorem c276_51 : pm_code 276 51 = some (.if_icmp .ge 46, 54) := pm_of cl276_0 33 (q := (51, .if_icmp .ge 46, 54)) rfl
theorem c276_54 : pm_code 276 54 = some (.iload_n 2, 55) := pm_of cl276_0 34 (q := (54, .iload_n 2, 55)) rfl
theorem c276_55 : pm_code 276 55 = some (.iconst 3, 56) := pm_of cl276_0 35 (q := (55, .iconst 3, 56)) rfl
theorem c276_56 : pm_code 276 56 = some (.if_icmp .ne 14, 59) := pm_of cl276_0 36 (q := (56, .if_icmp .ne 14, 59)) rfl
theorem c276_59 : pm_code 276 59 = some (.aload_n 0, 60) := pm_of cl276_0 37 (q := (59, .aload_n 0, 60)) rfl
theorem c276_60 : pm_code 276 60 = some (.getfield 62, 63) := pm_of cl276_0 38 (q := (60, .getfield 62, 63)) rfl
theorem c276_63 : pm_code 276 63 = some (.iconst 0, 64) := pm_of cl276_0 39 (q := (63, .iconst 0, 64)) rfl
theorem cl276_1 : ([(64, .iload_n 1, 65), (65, .iadd, 66), (66, .iaload, 67), (67, .goto 29, 70), (70, .iload_n 2, 71), (71, .iconst 4, 72), (72, .if_icmp .ne 15, 75), (75, .aload_n 0, 76), (76, .getfield 62, 79), (79, .bipush 8, 81), (81, .iload_n 1, 82), (82, .iadd, 83), (83, .iaload, 84), (84, .goto 12, 87), (87, .aload_n 0, 88), (88, .getfield 62, 91), (91, .bipush 16, 93), (93, .iload_n 1, 94), (94, .iadd, 95), (95, .iaload, 96), (96, .ireturn, 97), (97, .iload_n 2, 98), (98, .bipush 8, 100), (100, .if_icmp .ge 31, 103), (103, .iload_n 2, 104), (104, .bipush 6, 106), (106, .if_icmp .ne 15, 109), (109, .aload_n 0, 110), (110, .getfield 62, 113), (113, .bipush 24, 115), (115, .iload_n 1, 116), (116, .iadd, 117), (117, .iaload, 118), (118, .goto 12, 121), (121, .aload_n 0, 122), (122, .getfield 62, 125), (125, .bipush 32, 127), (127, .iload_n 1, 128), (128, .iadd, 129), (129, .iaload, 130)] : List (Nat × Instr × Nat)).all (fun q => decide (pm_code 276 q.1 = some q.2)) = true := by decide +kernel
theorem c276_64 : pm_code 276 64 = some (.iload_n 1, 65) := pm_of cl276_1 0 (q := (64, .iload_n 1, 65)) rfl
theorem c276_65 : pm_code 276 65 = some (.iadd, 66) := pm_of cl276_1 1 (q := (65, .iadd, 66)) rfl
theorem c276_66 : pm_code 276 66 = some (.iaload, 67) := pm_of cl276_1 2 (q := (66, .iaload, 67)) rfl
theorem c276_67 : pm_code 276 67 = some (.goto 29, 70) := pm_of cl276_1 3 (q := (67, .goto 29, 70)) rfl
theorem c276_70 : pm_code 276 70 = some (.iload_n 2, 71) := pm_of cl276_1 4 (q := (70, .iload_n 2, 71)) rfl
theorem c276_71 : pm_code 276 71 = some (.iconst 4, 72) := pm_of cl276_1 5 (q := (71, .iconst 4, 72)) rfl
theorem c276_72 : pm_code 276 72 = some (.if_icmp .ne 15, 75) := pm_of cl276_1 6 (q := (72, .if_icmp .ne 15, 75)) rfl
theorem c276_75 : pm_code 276 75 = some (.aload_n 0, 76) := pm_of cl276_1 7 (q := (75, .aload_n 0, 76)) rfl
theorem c276_76 : pm_code 276 76 = some (.getfield 62, 79) := pm_of cl276_1 8 (q := (76, .getfield 62, 79)) rfl
theorem c276_79 : pm_code 276 79 = some (.bipush 8, 81) := pm_of cl276_1 9 (q := (79, .bipush 8, 81)) rfl
theorem c276_81 : pm_code 276 81 = some (.iload_n 1, 82) := pm_of cl276_1 10 (q := (81, .iload_n 1, 82)) rfl
theorem c276_82 : pm_code 276 82 = some (.iadd, 83) := pm_of cl276_1 11 (q := (82, .iadd, 83)) rfl
theorem c276_83 : pm_code 276 83 = some (.iaload, 84) := pm_of cl276_1 12 (q := (83, .iaload, 84)) rfl
theorem c276_84 : pm_code 276 84 = some (.goto 12, 87) := pm_of cl276_1 13 (q := (84, .goto 12, 87)) rfl
theorem c276_87 : pm_code 276 87 = some (.aload_n 0, 88) := pm_of cl276_1 14 (q := (87, .aload_n 0, 88)) rfl
theorem c276_88 : pm_code 276 88 = some (.getfield 62, 91) := pm_of cl276_1 15 (q := (88, .getfield 62, 91)) rfl
theorem c276_91 : pm_code 276 91 = some (.bipush 16, 93) := pm_of cl276_1 16 (q := (91, .bipush 16, 93)) rfl
theorem c276_93 : pm_code 276 93 = some (.iload_n 1, 94) := pm_of cl276_1 17 (q := (93, .iload_n 1, 94)) rfl
theorem c276_94 : pm_code 276 94 = some (.iadd, 95) := pm_of cl276_1 18 (q := (94, .iadd, 95)) rfl
theorem c276_95 : pm_code 276 95 = some (.iaload, 96) := pm_of cl276_1 19 (q := (95, .iaload, 96)) rfl
theorem c276_96 : pm_code 276 96 = some (.ireturn, 97) := pm_of cl276_1 20 (q := (96, .ireturn, 97)) rfl
theorem c276_97 : pm_code 276 97 = some (.iload_n 2, 98) := pm_of cl276_1 21 (q := (97, .iload_n 2, 98)) rfl
theorem c276_98 : pm_code 276 98 = some (.bipush 8, 100) := pm_of cl276_1 22 (q := (98, .bipush 8, 100)) rfl
theorem c276_100 : pm_code 276 100 = some (.if_icmp .ge 31, 103) := pm_of cl276_1 23 (q := (100, .if_icmp .ge 31, 103)) rfl
theorem c276_103 : pm_code 276 103 = some (.iload_n 2, 104) := pm_of cl276_1 24 (q := (103, .iload_n 2, 104)) rfl
theorem c276_104 : pm_code 276 104 = some (.bipush 6, 106) := pm_of cl276_1 25 (q := (104, .bipush 6, 106)) rfl
theorem c276_106 : pm_code 276 106 = some (.if_icmp .ne 15, 109) := pm_of cl276_1 26 (q := (106, .if_icmp .ne 15, 109)) rfl
theorem c276_109 : pm_code 276 109 = some (.aload_n 0, 110) := pm_of cl276_1 27 (q := (109, .aload_n 0, 110)) rfl
theorem c276_110 : pm_code 276 110 = some (.getfield 62, 113) := pm_of cl276_1 28 (q := (110, .getfield 62, 113)) rfl
theorem c276_113 : pm_code 276 113 = some (.bipush 24, 115) := pm_of cl276_1 29 (q := (113, .bipush 24, 115)) rfl
theorem c276_115 : pm_code 276 115 = some (.iload_n 1, 116) := pm_of cl276_1 30 (q := (115, .iload_n 1, 116)) rfl
theorem c276_116 : pm_code 276 116 = some (.iadd, 117) := pm_of cl276_1 31 (q := (116, .iadd, 117)) rfl
theorem c276_117 : pm_code 276 117 = some (.iaload, 118) := pm_of cl276_1 32 (q := (117, .iaload, 118)) rfl
theorem c276_118 : pm_code 276 118 = some (.goto 12, 121) := pm_of cl276_1 33 (q := (118, .goto 12, 121)) rfl
theorem c276_121 : pm_code 276 121 = some (.aload_n 0, 122) := pm_of cl276_1 34 (q := (121, .aload_n 0, 122)) rfl
theorem c276_122 : pm_code 276 122 = some (.getfield 62, 125) := pm_of cl276_1 35 (q := (122, .getfield 62, 125)) rfl
theorem c276_125 : pm_code 276 125 = some (.bipush 32, 127) := pm_of cl276_1 36 (q := (125, .bipush 32, 127)) rfl
theorem c276_127 : pm_code 276 127 = some (.iload_n 1, 128) := pm_of cl276_1 37 (q := (127, .iload_n 1, 128)) rfl
theorem c276_128 : pm_code 276 128 = some (.iadd, 129) := pm_of cl276_1 38 (q := (128, .iadd, 129)) rfl
theorem c276_129 : pm_code 276 129 = some (.iaload, 130) := pm_of cl276_1 39 (q := (129, .iaload, 130)) rfl
theorem cl276_2 : ([(130, .ireturn, 131), (131, .iload_n 2, 132), (132, .bipush 8, 134), (134, .if_icmp .ne 15, 137), (137, .aload_n 0, 138), (138, .getfield 62, 141), (141, .bipush 40, 143), (143, .iload_n 1, 144), (144, .iadd, 145), (145, .iaload, 146), (146, .goto 12, 149), (149, .aload_n 0, 150), (150, .getfield 62, 153), (153, .bipush 56, 155), (155, .iload_n 1, 156), (156, .iadd, 157), (157, .iaload, 158), (158, .ireturn, 159)] : List (Nat × Instr × Nat)).all (fun q => decide (pm_code 276 q.1 = some q.2)) = true := by decide +kernel
theorem c276_130 : pm_code 276 130 = some (.ireturn, 131) := pm_of cl276_2 0 (q := (130, .ireturn, 131)) rfl
theorem c276_131 : pm_code 276 131 = some (.iload_n 2, 132) := pm_of cl276_2 1 (q := (131, .iload_n 2, 132)) rfl
theorem c276_132 : pm_code 276 132 = some (.bipush 8, 134) := pm_of cl276_2 2 (q := (132, .bipush 8, 134)) rfl
theorem c276_134 : pm_code 276 134 = some (.if_icmp .ne 15, 137) := pm_of cl276_2 3 (q := (134, .if_icmp .ne 15, 137)) rfl
theorem c276_137 : pm_code 276 137 = some (.aload_n 0, 138) := pm_of cl276_2 4 (q := (137, .aload_n 0, 138)) rfl
theorem c276_138 : pm_code 276 138 = some (.getfield 62, 141) := pm_of cl276_2 5 (q := (138, .getfield 62, 141)) rfl
theorem c276_141 : pm_code 276 141 = some (.bipush 40, 143) := pm_of cl276_2 6 (q := (141, .bipush 40, 143)) rfl
theorem c276_143 : pm_code 276 143 = some (.iload_n 1, 144) := pm_of cl276_2 7 (q := (143, .iload_n 1, 144)) rfl
theorem c276_144 : pm_code 276 144 = some (.iadd, 145) := pm_of cl276_2 8 (q := (144, .iadd, 145)) rfl
theorem c276_145 : pm_code 276 145 = some (.iaload, 146) := pm_of cl276_2 9 (q := (145, .iaload, 146)) rfl
theorem c276_146 : pm_code 276 146 = some (.goto 12, 149) := pm_of cl276_2 10 (q := (146, .goto 12, 149)) rfl
theorem c276_149 : pm_code 276 149 = some (.aload_n 0, 150) := pm_of cl276_2 11 (q := (149, .aload_n 0, 150)) rfl
theorem c276_150 : pm_code 276 150 = some (.getfield 62, 153) := pm_of cl276_2 12 (q := (150, .getfield 62, 153)) rfl
theorem c276_153 : pm_code 276 153 = some (.bipush 56, 155) := pm_of cl276_2 13 (q := (153, .bipush 56, 155)) rfl
theorem c276_155 : pm_code 276 155 = some (.iload_n 1, 156) := pm_of cl276_2 14 (q := (155, .iload_n 1, 156)) rfl
theorem c276_156 : pm_code 276 156 = some (.iadd, 157) := pm_of cl276_2 15 (q := (156, .iadd, 157)) rfl
theorem c276_157 : pm_code 276 157 = some (.iaload, 158) := pm_of cl276_2 16 (q := (157, .iaload, 158)) rfl
theorem c276_158 : pm_code 276 158 = some (.ireturn, 159) := pm_of cl276_2 17 (q := (158, .ireturn, 159)) rfl
theorem k277 : pm_k 277 = 12 := by decide +kernel
theorem ml277 : pm_ml 277 = 3 := by decide +kernel
theorem rt277 : pm_rt 277 = (some .boolean) := by decide +kernel
theorem hh277 : pm_hh 277 = [] := by decide +kernel
theorem rc277 : pm_cl 12 = (pm_y 277).cls := by decide +kernel
theorem cl277_0 : ([(0, .aload_n 0, 1), (1, .iload_n 1, 2), (2, .iconst 0, 3), (3, .aload_n 0, 4), (4, .getfield 169, 7), (7, .iconst 1, 8), (8, .isub, 9), (9, .invokestatic 290, 12), (12, .iload_n 2, 13), (13, .iconst 0, 14), (14, .invokevirtual 207, 17), (17, .ireturn, 18)] : List (Nat × Instr × Nat)).all (fun q => decide (pm_code 277 q.1 = some q.2)) = true := by decide +kernel
theorem c277_0 : pm_code 277 0 = some (.aload_n 0, 1) := pm_of cl277_0 0 (q := (0, .aload_n 0, 1)) rfl
theorem c277_1 : pm_code 277 1 = some (.iload_n 1, 2) := pm_of cl277_0 1 (q := (1, .iload_n 1, 2)) rfl
theorem c277_2 : pm_code 277 2 = some (.iconst 0, 3) := pm_of cl277_0 2 (q := (2, .iconst 0, 3)) rfl
theorem c277_3 : pm_code 277 3 = some (.aload_n 0, 4) := pm_of cl277_0 3 (q := (3, .aload_n 0, 4)) rfl
theorem c277_4 : pm_code 277 4 = some (.getfield 169, 7) := pm_of cl277_0 4 (q := (4, .getfield 169, 7)) rfl
theorem c277_7 : pm_code 277 7 = some (.iconst 1, 8) := pm_of cl277_0 5 (q := (7, .iconst 1, 8)) rfl
theorem c277_8 : pm_code 277 8 = some (.isub, 9) := pm_of cl277_0 6 (q := (8, .isub, 9)) rfl
theorem c277_9 : pm_code 277 9 = some (.invokestatic 290, 12) := pm_of cl277_0 7 (q := (9, .invokestatic 290, 12)) rfl
theorem c277_12 : pm_code 277 12 = some (.iload_n 2, 13) := pm_of cl277_0 8 (q := (12, .iload_n 2, 13)) rfl
theorem c277_13 : pm_code 277 13 = some (.iconst 0, 14) := pm_of cl277_0 9 (q := (13, .iconst 0, 14)) rfl
theorem c277_14 : pm_code 277 14 = some (.invokevirtual 207, 17) := pm_of cl277_0 10 (q := (14, .invokevirtual 207, 17)) rfl
theorem c277_17 : pm_code 277 17 = some (.ireturn, 18) := pm_of cl277_0 11 (q := (17, .ireturn, 18)) rfl
theorem k278 : pm_k 278 = 12 := by decide +kernel
theorem ml278 : pm_ml 278 = 3 := by decide +kernel
theorem rt278 : pm_rt 278 = (some .int) := by decide +kernel
theorem hh278 : pm_hh 278 = [] := by decide +kernel
theorem rc278 : pm_cl 12 = (pm_y 278).cls := by decide +kernel
theorem cl278_0 : ([(0, .aload_n 0, 1), (1, .iconst 0, 2), (2, .putfield 3, 5), (5, .aload_n 0, 6), (6, .iload_n 1, 7), (7, .iconst 1, 8), (8, .invokevirtual 407, 11), (11, .ifCond .eq 18, 14), (14, .aload_n 0, 15), (15, .iload_n 2, 16), (16, .iconst 0, 17), (17, .iconst 3, 18), (18, .invokestatic 290, 21), (21, .iconst 2, 22), (22, .iconst 1, 23), (23, .invokevirtual 207, 26), (26, .ifCond .ne 5, 29), (29, .iconst 0, 30), (30, .ireturn, 31), (31, .aload_n 0, 32), (32, .invokevirtual 330, 35), (35, .iload_n 2, 36), (36, .iconst 3, 37), (37, .if_icmp .ge 16, 40), (40, .aload_n 0, 41), (41, .getfield 32, 44), (44, .iconst 3, 45), (45, .iload_n 1, 46), (46, .imul, 47), (47, .iload_n 2, 48), (48, .iadd, 49), (49, .iaload, 50), (50, .goto 8, 53), (53, .aload_n 0, 54), (54, .iload_n 1, 55), (55, .invokevirtual 377, 58), (58, .ireturn, 59)] : List (Nat × Instr × Nat)).all (fun q => decide (pm_code 278 q.1 = some q.2)) = true := by decide +kernel
theorem c278_0 : pm_code 278 0 = some (.aload_n 0, 1) := pm_of cl278_0 0 (q := (0, .aload_n 0, 1)) rfl
theorem c278_1 : pm_code 278 1 = some (.iconst 0, 2) := pm_of cl278_0 1 (q := (1, .iconst 0, 2)) rfl
theorem c278_2 : pm_code 278 2 = some (.putfield 3, 5) := pm_of cl278_0 2 (q := (2, .putfield 3, 5)) rfl
theorem c278_5 : pm_code 278 5 = some (.aload_n 0, 6) := pm_of cl278_0 3 (q := (5, .aload_n 0, 6)) rfl
theorem c278_6 : pm_code 278 6 = some (.iload_n 1, 7) := pm_of cl278_0 4 (q := (6, .iload_n 1, 7)) rfl
theorem c278_7 : pm_code 278 7 = some (.iconst 1, 8) := pm_of cl278_0 5 (q := (7, .iconst 1, 8)) rfl
theorem c278_8 : pm_code 278 8 = some (.invokevirtual 407, 11) := pm_of cl278_0 6 (q := (8, .invokevirtual 407, 11)) rfl
theorem c278_11 : pm_code 278 11 = some (.ifCond .eq 18, 14) := pm_of cl278_0 7 (q := (11, .ifCond .eq 18, 14)) rfl
theorem c278_14 : pm_code 278 14 = some (.aload_n 0, 15) := pm_of cl278_0 8 (q := (14, .aload_n 0, 15)) rfl
theorem c278_15 : pm_code 278 15 = some (.iload_n 2, 16) := pm_of cl278_0 9 (q := (15, .iload_n 2, 16)) rfl
theorem c278_16 : pm_code 278 16 = some (.iconst 0, 17) := pm_of cl278_0 10 (q := (16, .iconst 0, 17)) rfl
theorem c278_17 : pm_code 278 17 = some (.iconst 3, 18) := pm_of cl278_0 11 (q := (17, .iconst 3, 18)) rfl
theorem c278_18 : pm_code 278 18 = some (.invokestatic 290, 21) := pm_of cl278_0 12 (q := (18, .invokestatic 290, 21)) rfl
theorem c278_21 : pm_code 278 21 = some (.iconst 2, 22) := pm_of cl278_0 13 (q := (21, .iconst 2, 22)) rfl
theorem c278_22 : pm_code 278 22 = some (.iconst 1, 23) := pm_of cl278_0 14 (q := (22, .iconst 1, 23)) rfl
theorem c278_23 : pm_code 278 23 = some (.invokevirtual 207, 26) := pm_of cl278_0 15 (q := (23, .invokevirtual 207, 26)) rfl
theorem c278_26 : pm_code 278 26 = some (.ifCond .ne 5, 29) := pm_of cl278_0 16 (q := (26, .ifCond .ne 5, 29)) rfl
theorem c278_29 : pm_code 278 29 = some (.iconst 0, 30) := pm_of cl278_0 17 (q := (29, .iconst 0, 30)) rfl
theorem c278_30 : pm_code 278 30 = some (.ireturn, 31) := pm_of cl278_0 18 (q := (30, .ireturn, 31)) rfl
theorem c278_31 : pm_code 278 31 = some (.aload_n 0, 32) := pm_of cl278_0 19 (q := (31, .aload_n 0, 32)) rfl
theorem c278_32 : pm_code 278 32 = some (.invokevirtual 330, 35) := pm_of cl278_0 20 (q := (32, .invokevirtual 330, 35)) rfl
theorem c278_35 : pm_code 278 35 = some (.iload_n 2, 36) := pm_of cl278_0 21 (q := (35, .iload_n 2, 36)) rfl
theorem c278_36 : pm_code 278 36 = some (.iconst 3, 37) := pm_of cl278_0 22 (q := (36, .iconst 3, 37)) rfl
theorem c278_37 : pm_code 278 37 = some (.if_icmp .ge 16, 40) := pm_of cl278_0 23 (q := (37, .if_icmp .ge 16, 40)) rfl
theorem c278_40 : pm_code 278 40 = some (.aload_n 0, 41) := pm_of cl278_0 24 (q := (40, .aload_n 0, 41)) rfl
theorem c278_41 : pm_code 278 41 = some (.getfield 32, 44) := pm_of cl278_0 25 (q := (41, .getfield 32, 44)) rfl
theorem c278_44 : pm_code 278 44 = some (.iconst 3, 45) := pm_of cl278_0 26 (q := (44, .iconst 3, 45)) rfl
theorem c278_45 : pm_code 278 45 = some (.iload_n 1, 46) := pm_of cl278_0 27 (q := (45, .iload_n 1, 46)) rfl
theorem c278_46 : pm_code 278 46 = some (.imul, 47) := pm_of cl278_0 28 (q := (46, .imul, 47)) rfl
theorem c278_47 : pm_code 278 47 = some (.iload_n 2, 48) := pm_of cl278_0 29 (q := (47, .iload_n 2, 48)) rfl
theorem c278_48 : pm_code 278 48 = some (.iadd, 49) := pm_of cl278_0 30 (q := (48, .iadd, 49)) rfl
theorem c278_49 : pm_code 278 49 = some (.iaload, 50) := pm_of cl278_0 31 (q := (49, .iaload, 50)) rfl
theorem c278_50 : pm_code 278 50 = some (.goto 8, 53) := pm_of cl278_0 32 (q := (50, .goto 8, 53)) rfl
theorem c278_53 : pm_code 278 53 = some (.aload_n 0, 54) := pm_of cl278_0 33 (q := (53, .aload_n 0, 54)) rfl
theorem c278_54 : pm_code 278 54 = some (.iload_n 1, 55) := pm_of cl278_0 34 (q := (54, .iload_n 1, 55)) rfl
theorem c278_55 : pm_code 278 55 = some (.invokevirtual 377, 58) := pm_of cl278_0 35 (q := (55, .invokevirtual 377, 58)) rfl
theorem c278_58 : pm_code 278 58 = some (.ireturn, 59) := pm_of cl278_0 36 (q := (58, .ireturn, 59)) rfl
theorem k279 : pm_k 279 = 12 := by decide +kernel
theorem ml279 : pm_ml 279 = 3 := by decide +kernel
theorem rt279 : pm_rt 279 = (some .boolean) := by decide +kernel
theorem hh279 : pm_hh 279 = [] := by decide +kernel
theorem rc279 : pm_cl 12 = (pm_y 279).cls := by decide +kernel
theorem cl279_0 : ([(0, .aload_n 0, 1), (1, .iload_n 1, 2), (2, .iconst 0, 3), (3, .aload_n 0, 4), (4, .getfield 172, 7), (7, .iconst 1, 8), (8, .isub, 9), (9, .invokestatic 290, 12), (12, .iload_n 2, 13), (13, .iconst 0, 14), (14, .invokevirtual 207, 17), (17, .ireturn, 18)] : List (Nat × Instr × Nat)).all (fun q => decide (pm_code 279 q.1 = some q.2)) = true := by decide +kernel
theorem c279_0 : pm_code 279 0 = some (.aload_n 0, 1) := pm_of cl279_0 0 (q := (0, .aload_n 0, 1)) rfl
theorem c279_1 : pm_code 279 1 = some (.iload_n 1, 2) := pm_of cl279_0 1 (q := (1, .iload_n 1, 2)) rfl
theorem c279_2 : pm_code 279 2 = some (.iconst 0, 3) := pm_of cl279_0 2 (q := (2, .iconst 0, 3)) rfl
theorem c279_3 : pm_code 279 3 = some (.aload_n 0, 4) := pm_of cl279_0 3 (q := (3, .aload_n 0, 4)) rfl
theorem c279_4 : pm_code 279 4 = some (.getfield 172, 7) := pm_of cl279_0 4 (q := (4, .getfield 172, 7)) rfl
theorem c279_7 : pm_code 279 7 = some (.iconst 1, 8) := pm_of cl279_0 5 (q := (7, .iconst 1, 8)) rfl
theorem c279_8 : pm_code 279 8 = some (.isub, 9) := pm_of cl279_0 6 (q := (8, .isub, 9)) rfl
theorem c279_9 : pm_code 279 9 = some (.invokestatic 290, 12) := pm_of cl279_0 7 (q := (9, .invokestatic 290, 12)) rfl
theorem c279_12 : pm_code 279 12 = some (.iload_n 2, 13) := pm_of cl279_0 8 (q := (12, .iload_n 2, 13)) rfl
theorem c279_13 : pm_code 279 13 = some (.iconst 0, 14) := pm_of cl279_0 9 (q := (13, .iconst 0, 14)) rfl
theorem c279_14 : pm_code 279 14 = some (.invokevirtual 207, 17) := pm_of cl279_0 10 (q := (14, .invokevirtual 207, 17)) rfl
theorem c279_17 : pm_code 279 17 = some (.ireturn, 18) := pm_of cl279_0 11 (q := (17, .ireturn, 18)) rfl
theorem k280 : pm_k 280 = 12 := by decide +kernel
theorem ml280 : pm_ml 280 = 3 := by decide +kernel
theorem rt280 : pm_rt 280 = (some .int) := by decide +kernel
theorem hh280 : pm_hh 280 = [] := by decide +kernel
theorem rc280 : pm_cl 12 = (pm_y 280).cls := by decide +kernel
theorem cl280_0 : ([(0, .aload_n 0, 1), (1, .iconst 0, 2), (2, .putfield 3, 5), (5, .aload_n 0, 6), (6, .iload_n 1, 7), (7, .iconst 1, 8), (8, .invokevirtual 404, 11), (11, .ifCond .eq 18, 14), (14, .aload_n 0, 15), (15, .iload_n 2, 16), (16, .iconst 0, 17), (17, .iconst 1, 18), (18, .invokestatic 290, 21), (21, .iconst 2, 22), (22, .iconst 1, 23), (23, .invokevirtual 207, 26), (26, .ifCond .ne 5, 29), (29, .iconst 0, 30), (30, .ireturn, 31), (31, .aload_n 0, 32), (32, .invokevirtual 330, 35), (35, .aload_n 0, 36), (36, .iload_n 1, 37), (37, .iload_n 2, 38), (38, .invokevirtual 371, 41), (41, .ireturn, 42)] : List (Nat × Instr × Nat)).all (fun q => decide (pm_code 280 q.1 = some q.2)) = true := by decide +kernel
theorem c280_0 : pm_code 280 0 = some (.aload_n 0, 1) := pm_of cl280_0 0 (q := (0, .aload_n 0, 1)) rfl
theorem c280_1 : pm_code 280 1 = some (.iconst 0, 2) := pm_of cl280_0 1 (q := (1, .iconst 0, 2)) rfl
theorem c280_2 : pm_code 280 2 = some (.putfield 3, 5) := pm_of cl280_0 2 (q := (2, .putfield 3, 5)) rfl
theorem c280_5 : pm_code 280 5 = some (.aload_n 0, 6) := pm_of cl280_0 3 (q := (5, .aload_n 0, 6)) rfl
theorem c280_6 : pm_code 280 6 = some (.iload_n 1, 7) := pm_of cl280_0 4 (q := (6, .iload_n 1, 7)) rfl
theorem c280_7 : pm_code 280 7 = some (.iconst 1, 8) := pm_of cl280_0 5 (q := (7, .iconst 1, 8)) rfl
theorem c280_8 : pm_code 280 8 = some (.invokevirtual 404, 11) := pm_of cl280_0 6 (q := (8, .invokevirtual 404, 11)) rfl
theorem c280_11 : pm_code 280 11 = some (.ifCond .eq 18, 14) := pm_of cl280_0 7 (q := (11, .ifCond .eq 18, 14)) rfl
theorem c280_14 : pm_code 280 14 = some (.aload_n 0, 15) := pm_of cl280_0 8 (q := (14, .aload_n 0, 15)) rfl
theorem c280_15 : pm_code 280 15 = some (.iload_n 2, 16) := pm_of cl280_0 9 (q := (15, .iload_n 2, 16)) rfl
theorem c280_16 : pm_code 280 16 = some (.iconst 0, 17) := pm_of cl280_0 10 (q := (16, .iconst 0, 17)) rfl
theorem c280_17 : pm_code 280 17 = some (.iconst 1, 18) := pm_of cl280_0 11 (q := (17, .iconst 1, 18)) rfl
theorem c280_18 : pm_code 280 18 = some (.invokestatic 290, 21) := pm_of cl280_0 12 (q := (18, .invokestatic 290, 21)) rfl
theorem c280_21 : pm_code 280 21 = some (.iconst 2, 22) := pm_of cl280_0 13 (q := (21, .iconst 2, 22)) rfl
theorem c280_22 : pm_code 280 22 = some (.iconst 1, 23) := pm_of cl280_0 14 (q := (22, .iconst 1, 23)) rfl
theorem c280_23 : pm_code 280 23 = some (.invokevirtual 207, 26) := pm_of cl280_0 15 (q := (23, .invokevirtual 207, 26)) rfl
theorem c280_26 : pm_code 280 26 = some (.ifCond .ne 5, 29) := pm_of cl280_0 16 (q := (26, .ifCond .ne 5, 29)) rfl
theorem c280_29 : pm_code 280 29 = some (.iconst 0, 30) := pm_of cl280_0 17 (q := (29, .iconst 0, 30)) rfl
theorem c280_30 : pm_code 280 30 = some (.ireturn, 31) := pm_of cl280_0 18 (q := (30, .ireturn, 31)) rfl
theorem c280_31 : pm_code 280 31 = some (.aload_n 0, 32) := pm_of cl280_0 19 (q := (31, .aload_n 0, 32)) rfl
theorem c280_32 : pm_code 280 32 = some (.invokevirtual 330, 35) := pm_of cl280_0 20 (q := (32, .invokevirtual 330, 35)) rfl
theorem c280_35 : pm_code 280 35 = some (.aload_n 0, 36) := pm_of cl280_0 21 (q := (35, .aload_n 0, 36)) rfl
theorem c280_36 : pm_code 280 36 = some (.iload_n 1, 37) := pm_of cl280_0 22 (q := (36, .iload_n 1, 37)) rfl
theorem c280_37 : pm_code 280 37 = some (.iload_n 2, 38) := pm_of cl280_0 23 (q := (37, .iload_n 2, 38)) rfl
theorem c280_38 : pm_code 280 38 = some (.invokevirtual 371, 41) := pm_of cl280_0 24 (q := (38, .invokevirtual 371, 41)) rfl
theorem c280_41 : pm_code 280 41 = some (.ireturn, 42) := pm_of cl280_0 25 (q := (41, .ireturn, 42)) rfl
theorem k281 : pm_k 281 = 12 := by decide +kernel
theorem ml281 : pm_ml 281 = 2 := by decide +kernel
theorem rt281 : pm_rt 281 = (some .int) := by decide +kernel
theorem hh281 : pm_hh 281 = [] := by decide +kernel
theorem rc281 : pm_cl 12 = (pm_y 281).cls := by decide +kernel
theorem cl281_0 : ([(0, .aload_n 0, 1), (1, .iconst 0, 2), (2, .putfield 3, 5), (5, .aload_n 0, 6), (6, .iload_n 1, 7), (7, .iconst 1, 8), (8, .invokevirtual 404, 11), (11, .ifCond .ne 5, 14), (14, .iconst 0, 15), (15, .ireturn, 16), (16, .aload_n 0, 17), (17, .invokevirtual 330, 20), (20, .aload_n 0, 21), (21, .iload_n 1, 22), (22, .invokevirtual 380, 25), (25, .ireturn, 26)] : List (Nat × Instr × Nat)).all (fun q => decide (pm_code 281 q.1 = some q.2)) = true := by decide +kernel
theorem c281_0 : pm_code 281 0 = some (.aload_n 0, 1) := pm_of cl281_0 0 (q := (0, .aload_n 0, 1)) rfl
theorem c281_1 : pm_code 281 1 = some (.iconst 0, 2) := pm_of cl281_0 1 (q := (1, .iconst 0, 2)) rfl
theorem c281_2 : pm_code 281 2 = some (.putfield 3, 5) := pm_of cl281_0 2 (q := (2, .putfield 3, 5)) rfl
theorem c281_5 : pm_code 281 5 = some (.aload_n 0, 6) := pm_of cl281_0 3 (q := (5, .aload_n 0, 6)) rfl
theorem c281_6 : pm_code 281 6 = some (.iload_n 1, 7) := pm_of cl281_0 4 (q := (6, .iload_n 1, 7)) rfl
theorem c281_7 : pm_code 281 7 = some (.iconst 1, 8) := pm_of cl281_0 5 (q := (7, .iconst 1, 8)) rfl
theorem c281_8 : pm_code 281 8 = some (.invokevirtual 404, 11) := pm_of cl281_0 6 (q := (8, .invokevirtual 404, 11)) rfl
theorem c281_11 : pm_code 281 11 = some (.ifCond .ne 5, 14) := pm_of cl281_0 7 (q := (11, .ifCond .ne 5, 14)) rfl
theorem c281_14 : pm_code 281 14 = some (.iconst 0, 15) := pm_of cl281_0 8 (q := (14, .iconst 0, 15)) rfl
theorem c281_15 : pm_code 281 15 = some (.ireturn, 16) := pm_of cl281_0 9 (q := (15, .ireturn, 16)) rfl
theorem c281_16 : pm_code 281 16 = some (.aload_n 0, 17) := pm_of cl281_0 10 (q := (16, .aload_n 0, 17)) rfl
theorem c281_17 : pm_code 281 17 = some (.invokevirtual 330, 20) := pm_of cl281_0 11 (q := (17, .invokevirtual 330, 20)) rfl
theorem c281_20 : pm_code 281 20 = some (.aload_n 0, 21) := pm_of cl281_0 12 (q := (20, .aload_n 0, 21)) rfl
theorem c281_21 : pm_code 281 21 = some (.iload_n 1, 22) := pm_of cl281_0 13 (q := (21, .iload_n 1, 22)) rfl
theorem c281_22 : pm_code 281 22 = some (.invokevirtual 380, 25) := pm_of cl281_0 14 (q := (22, .invokevirtual 380, 25)) rfl
theorem c281_25 : pm_code 281 25 = some (.ireturn, 26) := pm_of cl281_0 15 (q := (25, .ireturn, 26)) rfl
theorem k282 : pm_k 282 = 12 := by decide +kernel
theorem ml282 : pm_ml 282 = 7 := by decide +kernel
theorem rt282 : pm_rt 282 = (some .int) := by decide +kernel
theorem hh282 : pm_hh 282 = [] := by decide +kernel
theorem rc282 : pm_cl 12 = (pm_y 282).cls := by decide +kernel
theorem cl282_0 : ([(0, .aload_n 0, 1), (1, .iconst 0, 2), (2, .putfield 3, 5), (5, .aload_n 0, 6), (6, .iload_n 1, 7), (7, .iconst 1, 8), (8, .bipush 9, 10), (10, .invokestatic 290, 13), (13, .ifCond .eq 59, 16), (16, .iload_n 2, 17), (17, .iconst 0, 18), (18, .bipush 99, 20), (20, .invokestatic 290, 23), (23, .ifCond .eq 49, 26), (26, .iload_n 3, 27), (27, .iconst 0, 28), (28, .iconst 5, 29), (29, .invokestatic 290, 32), (32, .ifCond .eq 40, 35), (35, .iload 4, 37), (37, .iconst 0, 38), (38, .bipush 99, 40), (40, .invokestatic 290, 43), (43, .ifCond .eq 29, 46), (46, .iload 5, 48), (48, .iconst 0, 49), (49, .iconst 1, 50), (50, .invokestatic 290, 53), (53, .ifCond .eq 19, 56), (56, .iload 6, 58), (58, .iconst 0, 59), (59, .sipush 900, 62), (62, .invokestatic 290, 65), (65, .ifCond .eq 7, 68), (68, .iconst 1, 69), (69, .goto 4, 72), (72, .iconst 0, 73), (73, .iconst 1, 74), (74, .iconst 1, 75), (75, .invokevirtual 207, 78)] : List (Nat × Instr × Nat)).all (fun q => decide (pm_code 282 q.1 = some q.2)) = true := by decide +kernel
theorem c282_0 : pm_code 282 0 = some (.aload_n 0, 1) := pm_of cl282_0 0 (q := (0, .aload_n 0, 1)) rfl
theorem c282_1 : pm_code 282 1 = some (.iconst 0, 2) := pm_of cl282_0 1 (q := (1, .iconst 0, 2)) rfl
theorem c282_2 : pm_code 282 2 = some (.putfield 3, 5) := pm_of cl282_0 2 (q := (2, .putfield 3, 5)) rfl
theorem c282_5 : pm_code 282 5 = some (.aload_n 0, 6) := pm_of cl282_0 3 (q := (5, .aload_n 0, 6)) rfl
theorem c282_6 : pm_code 282 6 = some (.iload_n 1, 7) := pm_of cl282_0 4 (q := (6, .iload_n 1, 7)) rfl
theorem c282_7 : pm_code 282 7 = some (.iconst 1, 8) := pm_of cl282_0 5 (q := (7, .iconst 1, 8)) rfl
theorem c282_8 : pm_code 282 8 = some (.bipush 9, 10) := pm_of cl282_0 6 (q := (8, .bipush 9, 10)) rfl
theorem c282_10 : pm_code 282 10 = some (.invokestatic 290, 13) := pm_of cl282_0 7 (q := (10, .invokestatic 290, 13)) rfl
theorem c282_13 : pm_code 282 13 = some (.ifCond .eq 59, 16) := pm_of cl282_0 8 (q := (13, .ifCond .eq 59, 16)) rfl
theorem c282_16 : pm_code 282 16 = some (.iload_n 2, 17) := pm_of cl282_0 9 (q := (16, .iload_n 2, 17)) rfl
theorem c282_17 : pm_code 282 17 = some (.iconst 0, 18) := pm_of cl282_0 10 (q := (17, .iconst 0, 18)) rfl
theorem c282_18 : pm_code 282 18 = some (.bipush 99, 20) := pm_of cl282_0 11 (q := (18, .bipush 99, 20)) rfl
theorem c282_20 : pm_code 282 20 = some (.invokestatic 290, 23) := pm_of cl282_0 12 (q := (20, .invokestatic 290, 23)) rfl
theorem c282_23 : pm_code 282 23 = some (.ifCond .eq 49, 26) := pm_of cl282_0 13 (q := (23, .ifCond .eq 49, 26)) rfl
theorem c282_26 : pm_code 282 26 = some (.iload_n 3, 27) := pm_of cl282_0 14 (q := (26, .iload_n 3, 27)) rfl
theorem c282_27 : pm_code 282 27 = some (.iconst 0, 28) := pm_of cl282_0 15 (q := (27, .iconst 0, 28)) rfl
theorem c282_28 : pm_code 282 28 = some (.iconst 5, 29) := pm_of cl282_0 16 (q := (28, .iconst 5, 29)) rfl
theorem c282_29 : pm_code 282 29 = some (.invokestatic 290, 32) := pm_of cl282_0 17 (q := (29, .invokestatic 290, 32)) rfl
theorem c282_32 : pm_code 282 32 = some (.ifCond .eq 40, 35) := pm_of cl282_0 18 (q := (32, .ifCond .eq 40, 35)) rfl
theorem c282_35 : pm_code 282 35 = some (.iload 4, 37) := pm_of cl282_0 19 (q := (35, .iload 4, 37)) rfl
theorem c282_37 : pm_code 282 37 = some (.iconst 0, 38) := pm_of cl282_0 20 (q := (37, .iconst 0, 38)) rfl
theorem c282_38 : pm_code 282 38 = some (.bipush 99, 40) := pm_of cl282_0 21 (q := (38, .bipush 99, 40)) rfl
theorem c282_40 : pm_code 282 40 = some (.invokestatic 290, 43) := pm_of cl282_0 22 (q := (40, .invokestatic 290, 43)) rfl
theorem c282_43 : pm_code 282 43 = some (.ifCond .eq 29, 46) := pm_of cl282_0 23 (q := (43, .ifCond .eq 29, 46)) rfl
theorem c282_46 : pm_code 282 46 = some (.iload 5, 48) := pm_of cl282_0 24 (q := (46, .iload 5, 48)) rfl
theorem c282_48 : pm_code 282 48 = some (.iconst 0, 49) := pm_of cl282_0 25 (q := (48, .iconst 0, 49)) rfl
theorem c282_49 : pm_code 282 49 = some (.iconst 1, 50) := pm_of cl282_0 26 (q := (49, .iconst 1, 50)) rfl
theorem c282_50 : pm_code 282 50 = some (.invokestatic 290, 53) := pm_of cl282_0 27 (q := (50, .invokestatic 290, 53)) rfl
theorem c282_53 : pm_code 282 53 = some (.ifCond .eq 19, 56) := pm_of cl282_0 28 (q := (53, .ifCond .eq 19, 56)) rfl
theorem c282_56 : pm_code 282 56 = some (.iload 6, 58) := pm_of cl282_0 29 (q := (56, .iload 6, 58)) rfl
theorem c282_58 : pm_code 282 58 = some (.iconst 0, 59) := pm_of cl282_0 30 (q := (58, .iconst 0, 59)) rfl
theorem c282_59 : pm_code 282 59 = some (.sipush 900, 62) := pm_of cl282_0 31 (q := (59, .sipush 900, 62)) rfl
theorem c282_62 : pm_code 282 62 = some (.invokestatic 290, 65) := pm_of cl282_0 32 (q := (62, .invokestatic 290, 65)) rfl
theorem c282_65 : pm_code 282 65 = some (.ifCond .eq 7, 68) := pm_of cl282_0 33 (q := (65, .ifCond .eq 7, 68)) rfl
theorem c282_68 : pm_code 282 68 = some (.iconst 1, 69) := pm_of cl282_0 34 (q := (68, .iconst 1, 69)) rfl
theorem c282_69 : pm_code 282 69 = some (.goto 4, 72) := pm_of cl282_0 35 (q := (69, .goto 4, 72)) rfl
theorem c282_72 : pm_code 282 72 = some (.iconst 0, 73) := pm_of cl282_0 36 (q := (72, .iconst 0, 73)) rfl
theorem c282_73 : pm_code 282 73 = some (.iconst 1, 74) := pm_of cl282_0 37 (q := (73, .iconst 1, 74)) rfl
theorem c282_74 : pm_code 282 74 = some (.iconst 1, 75) := pm_of cl282_0 38 (q := (74, .iconst 1, 75)) rfl
theorem c282_75 : pm_code 282 75 = some (.invokevirtual 207, 78) := pm_of cl282_0 39 (q := (75, .invokevirtual 207, 78)) rfl
theorem cl282_1 : ([(78, .ifCond .ne 5, 81), (81, .iconst 0, 82), (82, .ireturn, 83), (83, .aload_n 0, 84), (84, .getfield 53, 87), (87, .iconst 0, 88), (88, .iload_n 1, 89), (89, .iastore, 90), (90, .aload_n 0, 91), (91, .getfield 53, 94), (94, .iconst 1, 95), (95, .iload_n 2, 96), (96, .iastore, 97), (97, .aload_n 0, 98), (98, .getfield 53, 101), (101, .iconst 2, 102), (102, .iload_n 3, 103), (103, .iastore, 104), (104, .aload_n 0, 105), (105, .getfield 53, 108), (108, .iconst 3, 109), (109, .iload 4, 111), (111, .iastore, 112), (112, .aload_n 0, 113), (113, .getfield 53, 116), (116, .iconst 4, 117), (117, .iconst 0, 118), (118, .iastore, 119), (119, .aload_n 0, 120), (120, .getfield 53, 123), (123, .iconst 5, 124), (124, .iload 5, 126), (126, .iastore, 127), (127, .aload_n 0, 128), (128, .getfield 53, 131), (131, .bipush 6, 133), (133, .iconst 0, 134), (134, .iastore, 135), (135, .aload_n 0, 136), (136, .getfield 53, 139)] : List (Nat × Instr × Nat)).all (fun q => decide (pm_code 282 q.1 = some q.2)) = true := by decide +kernel
theorem c282_78 : pm_code 282 78 = some (.ifCond .ne 5, 81) := pm_of cl282_1 0 (q := (78, .ifCond .ne 5, 81)) rfl
theorem c282_81 : pm_code 282 81 = some (.iconst 0, 82) := pm_of cl282_1 1 (q := (81, .iconst 0, 82)) rfl
theorem c282_82 : pm_code 282 82 = some (.ireturn, 83) := pm_of cl282_1 2 (q := (82, .ireturn, 83)) rfl
theorem c282_83 : pm_code 282 83 = some (.aload_n 0, 84) := pm_of cl282_1 3 (q := (83, .aload_n 0, 84)) rfl
theorem c282_84 : pm_code 282 84 = some (.getfield 53, 87) := pm_of cl282_1 4 (q := (84, .getfield 53, 87)) rfl
theorem c282_87 : pm_code 282 87 = some (.iconst 0, 88) := pm_of cl282_1 5 (q := (87, .iconst 0, 88)) rfl
theorem c282_88 : pm_code 282 88 = some (.iload_n 1, 89) := pm_of cl282_1 6 (q := (88, .iload_n 1, 89)) rfl
theorem c282_89 : pm_code 282 89 = some (.iastore, 90) := pm_of cl282_1 7 (q := (89, .iastore, 90)) rfl
theorem c282_90 : pm_code 282 90 = some (.aload_n 0, 91) := pm_of cl282_1 8 (q := (90, .aload_n 0, 91)) rfl
theorem c282_91 : pm_code 282 91 = some (.getfield 53, 94) := pm_of cl282_1 9 (q := (91, .getfield 53, 94)) rfl
theorem c282_94 : pm_code 282 94 = some (.iconst 1, 95) := pm_of cl282_1 10 (q := (94, .iconst 1, 95)) rfl
theorem c282_95 : pm_code 282 95 = some (.iload_n 2, 96) := pm_of cl282_1 11 (q := (95, .iload_n 2, 96)) rfl
theorem c282_96 : pm_code 282 96 = some (.iastore, 97) := pm_of cl282_1 12 (q := (96, .iastore, 97)) rfl
theorem c282_97 : pm_code 282 97 = some (.aload_n 0, 98) := pm_of cl282_1 13 (q := (97, .aload_n 0, 98)) rfl
theorem c282_98 : pm_code 282 98 = some (.getfield 53, 101) := pm_of cl282_1 14 (q := (98, .getfield 53, 101)) rfl
theorem c282_101 : pm_code 282 101 = some (.iconst 2, 102) := pm_of cl282_1 15 (q := (101, .iconst 2, 102)) rfl
theorem c282_102 : pm_code 282 102 = some (.iload_n 3, 103) := pm_of cl282_1 16 (q := (102, .iload_n 3, 103)) rfl
theorem c282_103 : pm_code 282 103 = some (.iastore, 104) := pm_of cl282_1 17 (q := (103, .iastore, 104)) rfl
theorem c282_104 : pm_code 282 104 = some (.aload_n 0, 105) := pm_of cl282_1 18 (q := (104, .aload_n 0, 105)) rfl
theorem c282_105 : pm_code 282 105 = some (.getfield 53, 108) := pm_of cl282_1 19 (q := (105, .getfield 53, 108)) rfl
theorem c282_108 : pm_code 282 108 = some (.iconst 3, 109) := pm_of cl282_1 20 (q := (108, .iconst 3, 109)) rfl
theorem c282_109 : pm_code 282 109 = some (.iload 4, 111) := pm_of cl282_1 21 (q := (109, .iload 4, 111)) rfl
theorem c282_111 : pm_code 282 111 = some (.iastore, 112) := pm_of cl282_1 22 (q := (111, .iastore, 112)) rfl
theorem c282_112 : pm_code 282 112 = some (.aload_n 0, 113) := pm_of cl282_1 23 (q := (112, .aload_n 0, 113)) rfl
theorem c282_113 : pm_code 282 113 = some (.getfield 53, 116) := pm_of cl282_1 24 (q := (113, .getfield 53, 116)) rfl
theorem c282_116 : pm_code 282 116 = some (.iconst 4, 117) := pm_of cl282_1 25 (q := (116, .iconst 4, 117)) rfl
theorem c282_117 : pm_code 282 117 = some (.iconst 0, 118) := pm_of cl282_1 26 (q := (117, .iconst 0, 118)) rfl
theorem c282_118 : pm_code 282 118 = some (.iastore, 119) := pm_of cl282_1 27 (q := (118, .iastore, 119)) rfl
theorem c282_119 : pm_code 282 119 = some (.aload_n 0, 120) := pm_of cl282_1 28 (q := (119, .aload_n 0, 120)) rfl
theorem c282_120 : pm_code 282 120 = some (.getfield 53, 123) := pm_of cl282_1 29 (q := (120, .getfield 53, 123)) rfl
theorem c282_123 : pm_code 282 123 = some (.iconst 5, 124) := pm_of cl282_1 30 (q := (123, .iconst 5, 124)) rfl
theorem c282_124 : pm_code 282 124 = some (.iload 5, 126) := pm_of cl282_1 31 (q := (124, .iload 5, 126)) rfl
theorem c282_126 : pm_code 282 126 = some (.iastore, 127) := pm_of cl282_1 32 (q := (126, .iastore, 127)) rfl
theorem c282_127 : pm_code 282 127 = some (.aload_n 0, 128) := pm_of cl282_1 33 (q := (127, .aload_n 0, 128)) rfl
theorem c282_128 : pm_code 282 128 = some (.getfield 53, 131) := pm_of cl282_1 34 (q := (128, .getfield 53, 131)) rfl
theorem c282_131 : pm_code 282 131 = some (.bipush 6, 133) := pm_of cl282_1 35 (q := (131, .bipush 6, 133)) rfl
theorem c282_133 : pm_code 282 133 = some (.iconst 0, 134) := pm_of cl282_1 36 (q := (133, .iconst 0, 134)) rfl
theorem c282_134 : pm_code 282 134 = some (.iastore, 135) := pm_of cl282_1 37 (q := (134, .iastore, 135)) rfl
theorem c282_135 : pm_code 282 135 = some (.aload_n 0, 136) := pm_of cl282_1 38 (q := (135, .aload_n 0, 136)) rfl
theorem c282_136 : pm_code 282 136 = some (.getfield 53, 139) := pm_of cl282_1 39 (q := (136, .getfield 53, 139)) rfl
theorem cl282_2 : ([(139, .bipush 7, 141), (141, .iload 6, 143), (143, .iastore, 144), (144, .aload_n 0, 145), (145, .iconst 0, 146), (146, .invokevirtual 364, 149), (149, .ireturn, 150)] : List (Nat × Instr × Nat)).all (fun q => decide (pm_code 282 q.1 = some q.2)) = true := by decide +kernel
theorem c282_139 : pm_code 282 139 = some (.bipush 7, 141) := pm_of cl282_2 0 (q := (139, .bipush 7, 141)) rfl
theorem c282_141 : pm_code 282 141 = some (.iload 6, 143) := pm_of cl282_2 1 (q := (141, .iload 6, 143)) rfl
theorem c282_143 : pm_code 282 143 = some (.iastore, 144) := pm_of cl282_2 2 (q := (143, .iastore, 144)) rfl
theorem c282_144 : pm_code 282 144 = some (.aload_n 0, 145) := pm_of cl282_2 3 (q := (144, .aload_n 0, 145)) rfl
theorem c282_145 : pm_code 282 145 = some (.iconst 0, 146) := pm_of cl282_2 4 (q := (145, .iconst 0, 146)) rfl
theorem c282_146 : pm_code 282 146 = some (.invokevirtual 364, 149) := pm_of cl282_2 5 (q := (146, .invokevirtual 364, 149)) rfl
theorem c282_149 : pm_code 282 149 = some (.ireturn, 150) := pm_of cl282_2 6 (q := (149, .ireturn, 150)) rfl
theorem k283 : pm_k 283 = 12 := by decide +kernel
theorem ml283 : pm_ml 283 = 3 := by decide +kernel
theorem rt283 : pm_rt 283 = (some .int) := by decide +kernel
theorem hh283 : pm_hh 283 = [] := by decide +kernel
theorem rc283 : pm_cl 12 = (pm_y 283).cls := by decide +kernel
theorem cl283_0 : ([(0, .aload_n 0, 1), (1, .iconst 0, 2), (2, .putfield 3, 5), (5, .aload_n 0, 6), (6, .invokevirtual 330, 9), (9, .iconst 0, 10), (10, .istore_n 1, 11), (11, .iconst 0, 12), (12, .istore_n 2, 13), (13, .iload_n 2, 14), (14, .aload_n 0, 15), (15, .getfield 169, 18), (18, .if_icmp .ge 49, 21), (21, .iload_n 1, 22), (22, .aload_n 0, 23), (23, .getfield 65, 26), (26, .iconst 0, 27), (27, .iload_n 2, 28), (28, .iadd, 29), (29, .iaload, 30), (30, .iconst 2, 31), (31, .if_icmp .ne 27, 34), (34, .aload_n 0, 35), (35, .getfield 65, 38), (38, .bipush 16, 40), (40, .iload_n 2, 41), (41, .iadd, 42), (42, .iaload, 43), (43, .aload_n 0, 44), (44, .iload_n 2, 45), (45, .iconst 1, 46), (46, .invokevirtual 371, 49), (49, .if_icmp .lt 9, 52), (52, .iconst 1, 53), (53, .iload_n 2, 54), (54, .ishl, 55), (55, .goto 4, 58), (58, .iconst 0, 59), (59, .ior, 60), (60, .istore_n 1, 61)] : List (Nat × Instr × Nat)).all (fun q => decide (pm_code 283 q.1 = some q.2)) = true := by decide +kernel
theorem c283_0 : pm_code 283 0 = some (.aload_n 0, 1) := pm_of cl283_0 0 (q := (0, .aload_n 0, 1)) rfl
theorem c283_1 : pm_code 283 1 = some (.iconst 0, 2) := pm_of cl283_0 1 (q := (1, .iconst 0, 2)) rfl
theorem c283_2 : pm_code 283 2 = some (.putfield 3, 5) := pm_of cl283_0 2 (q := (2, .putfield 3, 5)) rfl
theorem c283_5 : pm_code 283 5 = some (.aload_n 0, 6) := pm_of cl283_0 3 (q := (5, .aload_n 0, 6)) rfl
theorem c283_6 : pm_code 283 6 = some (.invokevirtual 330, 9) := pm_of cl283_0 4 (q := (6, .invokevirtual 330, 9)) rfl
theorem c283_9 : pm_code 283 9 = some (.iconst 0, 10) := pm_of cl283_0 5 (q := (9, .iconst 0, 10)) rfl
theorem c283_10 : pm_code 283 10 = some (.istore_n 1, 11) := pm_of cl283_0 6 (q := (10, .istore_n 1, 11)) rfl
theorem c283_11 : pm_code 283 11 = some (.iconst 0, 12) := pm_of cl283_0 7 (q := (11, .iconst 0, 12)) rfl
theorem c283_12 : pm_code 283 12 = some (.istore_n 2, 13) := pm_of cl283_0 8 (q := (12, .istore_n 2, 13)) rfl
theorem c283_13 : pm_code 283 13 = some (.iload_n 2, 14) := pm_of cl283_0 9 (q := (13, .iload_n 2, 14)) rfl
theorem c283_14 : pm_code 283 14 = some (.aload_n 0, 15) := pm_of cl283_0 10 (q := (14, .aload_n 0, 15)) rfl
theorem c283_15 : pm_code 283 15 = some (.getfield 169, 18) := pm_of cl283_0 11 (q := (15, .getfield 169, 18)) rfl
theorem c283_18 : pm_code 283 18 = some (.if_icmp .ge 49, 21) := pm_of cl283_0 12 (q := (18, .if_icmp .ge 49, 21)) rfl
theorem c283_21 : pm_code 283 21 = some (.iload_n 1, 22) := pm_of cl283_0 13 (q := (21, .iload_n 1, 22)) rfl
theorem c283_22 : pm_code 283 22 = some (.aload_n 0, 23) := pm_of cl283_0 14 (q := (22, .aload_n 0, 23)) rfl
theorem c283_23 : pm_code 283 23 = some (.getfield 65, 26) := pm_of cl283_0 15 (q := (23, .getfield 65, 26)) rfl
theorem c283_26 : pm_code 283 26 = some (.iconst 0, 27) := pm_of cl283_0 16 (q := (26, .iconst 0, 27)) rfl
theorem c283_27 : pm_code 283 27 = some (.iload_n 2, 28) := pm_of cl283_0 17 (q := (27, .iload_n 2, 28)) rfl
theorem c283_28 : pm_code 283 28 = some (.iadd, 29) := pm_of cl283_0 18 (q := (28, .iadd, 29)) rfl
theorem c283_29 : pm_code 283 29 = some (.iaload, 30) := pm_of cl283_0 19 (q := (29, .iaload, 30)) rfl
theorem c283_30 : pm_code 283 30 = some (.iconst 2, 31) := pm_of cl283_0 20 (q := (30, .iconst 2, 31)) rfl
theorem c283_31 : pm_code 283 31 = some (.if_icmp .ne 27, 34) := pm_of cl283_0 21 (q := (31, .if_icmp .ne 27, 34)) rfl
theorem c283_34 : pm_code 283 34 = some (.aload_n 0, 35) := pm_of cl283_0 22 (q := (34, .aload_n 0, 35)) rfl
theorem c283_35 : pm_code 283 35 = some (.getfield 65, 38) := pm_of cl283_0 23 (q := (35, .getfield 65, 38)) rfl
theorem c283_38 : pm_code 283 38 = some (.bipush 16, 40) := pm_of cl283_0 24 (q := (38, .bipush 16, 40)) rfl
theorem c283_40 : pm_code 283 40 = some (.iload_n 2, 41) := pm_of cl283_0 25 (q := (40, .iload_n 2, 41)) rfl
theorem c283_41 : pm_code 283 41 = some (.iadd, 42) := pm_of cl283_0 26 (q := (41, .iadd, 42)) rfl
theorem c283_42 : pm_code 283 42 = some (.iaload, 43) := pm_of cl283_0 27 (q := (42, .iaload, 43)) rfl
theorem c283_43 : pm_code 283 43 = some (.aload_n 0, 44) := pm_of cl283_0 28 (q := (43, .aload_n 0, 44)) rfl
theorem c283_44 : pm_code 283 44 = some (.iload_n 2, 45) := pm_of cl283_0 29 (q := (44, .iload_n 2, 45)) rfl
theorem c283_45 : pm_code 283 45 = some (.iconst 1, 46) := pm_of cl283_0 30 (q := (45, .iconst 1, 46)) rfl
theorem c283_46 : pm_code 283 46 = some (.invokevirtual 371, 49) := pm_of cl283_0 31 (q := (46, .invokevirtual 371, 49)) rfl
theorem c283_49 : pm_code 283 49 = some (.if_icmp .lt 9, 52) := pm_of cl283_0 32 (q := (49, .if_icmp .lt 9, 52)) rfl
theorem c283_52 : pm_code 283 52 = some (.iconst 1, 53) := pm_of cl283_0 33 (q := (52, .iconst 1, 53)) rfl
theorem c283_53 : pm_code 283 53 = some (.iload_n 2, 54) := pm_of cl283_0 34 (q := (53, .iload_n 2, 54)) rfl
theorem c283_54 : pm_code 283 54 = some (.ishl, 55) := pm_of cl283_0 35 (q := (54, .ishl, 55)) rfl
theorem c283_55 : pm_code 283 55 = some (.goto 4, 58) := pm_of cl283_0 36 (q := (55, .goto 4, 58)) rfl
theorem c283_58 : pm_code 283 58 = some (.iconst 0, 59) := pm_of cl283_0 37 (q := (58, .iconst 0, 59)) rfl
theorem c283_59 : pm_code 283 59 = some (.ior, 60) := pm_of cl283_0 38 (q := (59, .ior, 60)) rfl
theorem c283_60 : pm_code 283 60 = some (.istore_n 1, 61) := pm_of cl283_0 39 (q := (60, .istore_n 1, 61)) rfl
theorem cl283_1 : ([(61, .iinc 2 1, 64), (64, .goto (-51), 67), (67, .iload_n 1, 68), (68, .ireturn, 69)] : List (Nat × Instr × Nat)).all (fun q => decide (pm_code 283 q.1 = some q.2)) = true := by decide +kernel
theorem c283_61 : pm_code 283 61 = some (.iinc 2 1, 64) := pm_of cl283_1 0 (q := (61, .iinc 2 1, 64)) rfl
theorem c283_64 : pm_code 283 64 = some (.goto (-51), 67) := pm_of cl283_1 1 (q := (64, .goto (-51), 67)) rfl
theorem c283_67 : pm_code 283 67 = some (.iload_n 1, 68) := pm_of cl283_1 2 (q := (67, .iload_n 1, 68)) rfl
theorem c283_68 : pm_code 283 68 = some (.ireturn, 69) := pm_of cl283_1 3 (q := (68, .ireturn, 69)) rfl
theorem k284 : pm_k 284 = 12 := by decide +kernel
theorem ml284 : pm_ml 284 = 2 := by decide +kernel
theorem rt284 : pm_rt 284 = (some .int) := by decide +kernel
theorem hh284 : pm_hh 284 = [] := by decide +kernel
theorem rc284 : pm_cl 12 = (pm_y 284).cls := by decide +kernel
theorem cl284_0 : ([(0, .aload_n 0, 1), (1, .iconst 0, 2), (2, .putfield 3, 5), (5, .aload_n 0, 6), (6, .iload_n 1, 7), (7, .iconst 1, 8), (8, .invokevirtual 404, 11), (11, .ifCond .ne 5, 14), (14, .iconst 0, 15), (15, .ireturn, 16), (16, .aload_n 0, 17), (17, .iload_n 1, 18), (18, .iconst 0, 19), (19, .invokevirtual 410, 22), (22, .ireturn, 23)] : List (Nat × Instr × Nat)).all (fun q => decide (pm_code 284 q.1 = some q.2)) = true := by decide +kernel
theorem c284_0 : pm_code 284 0 = some (.aload_n 0, 1) := pm_of cl284_0 0 (q := (0, .aload_n 0, 1)) rfl
theorem c284_1 : pm_code 284 1 = some (.iconst 0, 2) := pm_of cl284_0 1 (q := (1, .iconst 0, 2)) rfl
theorem c284_2 : pm_code 284 2 = some (.putfield 3, 5) := pm_of cl284_0 2 (q := (2, .putfield 3, 5)) rfl
theorem c284_5 : pm_code 284 5 = some (.aload_n 0, 6) := pm_of cl284_0 3 (q := (5, .aload_n 0, 6)) rfl
theorem c284_6 : pm_code 284 6 = some (.iload_n 1, 7) := pm_of cl284_0 4 (q := (6, .iload_n 1, 7)) rfl
theorem c284_7 : pm_code 284 7 = some (.iconst 1, 8) := pm_of cl284_0 5 (q := (7, .iconst 1, 8)) rfl
theorem c284_8 : pm_code 284 8 = some (.invokevirtual 404, 11) := pm_of cl284_0 6 (q := (8, .invokevirtual 404, 11)) rfl
theorem c284_11 : pm_code 284 11 = some (.ifCond .ne 5, 14) := pm_of cl284_0 7 (q := (11, .ifCond .ne 5, 14)) rfl
theorem c284_14 : pm_code 284 14 = some (.iconst 0, 15) := pm_of cl284_0 8 (q := (14, .iconst 0, 15)) rfl
theorem c284_15 : pm_code 284 15 = some (.ireturn, 16) := pm_of cl284_0 9 (q := (15, .ireturn, 16)) rfl
theorem c284_16 : pm_code 284 16 = some (.aload_n 0, 17) := pm_of cl284_0 10 (q := (16, .aload_n 0, 17)) rfl
theorem c284_17 : pm_code 284 17 = some (.iload_n 1, 18) := pm_of cl284_0 11 (q := (17, .iload_n 1, 18)) rfl
theorem c284_18 : pm_code 284 18 = some (.iconst 0, 19) := pm_of cl284_0 12 (q := (18, .iconst 0, 19)) rfl
theorem c284_19 : pm_code 284 19 = some (.invokevirtual 410, 22) := pm_of cl284_0 13 (q := (19, .invokevirtual 410, 22)) rfl
theorem c284_22 : pm_code 284 22 = some (.ireturn, 23) := pm_of cl284_0 14 (q := (22, .ireturn, 23)) rfl
theorem k285 : pm_k 285 = 12 := by decide +kernel
theorem ml285 : pm_ml 285 = 4 := by decide +kernel
theorem rt285 : pm_rt 285 = (some .int) := by decide +kernel
theorem hh285 : pm_hh 285 = [] := by decide +kernel
theorem rc285 : pm_cl 12 = (pm_y 285).cls := by decide +kernel
theorem cl285_0 : ([(0, .aload_n 0, 1), (1, .invokevirtual 330, 4), (4, .aload_n 0, 5), (5, .iload_n 2, 6), (6, .putfield 348, 9), (9, .aload_n 0, 10), (10, .getfield 65, 13), (13, .iconst 0, 14), (14, .iload_n 1, 15), (15, .iadd, 16), (16, .iaload, 17), (17, .iconst 2, 18), (18, .if_icmp .eq 5, 21), (21, .iconst (-1), 22), (22, .ireturn, 23), (23, .iconst 1, 24), (24, .istore_n 3, 25), (25, .iload_n 3, 26), (26, .sipush 600, 29), (29, .if_icmp .gt 27, 32), (32, .aload_n 0, 33), (33, .invokevirtual 401, 36), (36, .aload_n 0, 37), (37, .getfield 65, 40), (40, .iconst 0, 41), (41, .iload_n 1, 42), (42, .iadd, 43), (43, .iaload, 44), (44, .iconst 3, 45), (45, .if_icmp .ne 5, 48), (48, .iload_n 3, 49), (49, .ireturn, 50), (50, .iinc 3 1, 53), (53, .goto (-28), 56), (56, .iconst (-1), 57), (57, .ireturn, 58)] : List (Nat × Instr × Nat)).all (fun q => decide (pm_code 285 q.1 = some q.2)) = true := by decide +kernel
theorem c285_0 : pm_code 285 0 = some (.aload_n 0, 1) := pm_of cl285_0 0 (q := (0, .aload_n 0, 1)) rfl
theorem c285_1 : pm_code 285 1 = some (.invokevirtual 330, 4) := pm_of cl285_0 1 (q := (1, .invokevirtual 330, 4)) rfl
theorem c285_4 : pm_code 285 4 = some (.aload_n 0, 5) := pm_of cl285_0 2 (q := (4, .aload_n 0, 5)) rfl
theorem c285_5 : pm_code 285 5 = some (.iload_n 2, 6) := pm_of cl285_0 3 (q := (5, .iload_n 2, 6)) rfl
theorem c285_6 : pm_code 285 6 = some (.putfield 348, 9) := pm_of cl285_0 4 (q := (6, .putfield 348, 9)) rfl
theorem c285_9 : pm_code 285 9 = some (.aload_n 0, 10) := pm_of cl285_0 5 (q := (9, .aload_n 0, 10)) rfl
theorem c285_10 : pm_code 285 10 = some (.getfield 65, 13) := pm_of cl285_0 6 (q := (10, .getfield 65, 13)) rfl
theorem c285_13 : pm_code 285 13 = some (.iconst 0, 14) := pm_of cl285_0 7 (q := (13, .iconst 0, 14)) rfl
theorem c285_14 : pm_code 285 14 = some (.iload_n 1, 15) := pm_of cl285_0 8 (q := (14, .iload_n 1, 15)) rfl
theorem c285_15 : pm_code 285 15 = some (.iadd, 16) := pm_of cl285_0 9 (q := (15, .iadd, 16)) rfl
theorem c285_16 : pm_code 285 16 = some (.iaload, 17) := pm_of cl285_0 10 (q := (16, .iaload, 17)) rfl
theorem c285_17 : pm_code 285 17 = some (.iconst 2, 18) := pm_of cl285_0 11 (q := (17, .iconst 2, 18)) rfl
theorem c285_18 : pm_code 285 18 = some (.if_icmp .eq 5, 21) := pm_of cl285_0 12 (q := (18, .if_icmp .eq 5, 21)) rfl
theorem c285_21 : pm_code 285 21 = some (.iconst (-1), 22) := pm_of cl285_0 13 (q := (21, .iconst (-1), 22)) rfl
theorem c285_22 : pm_code 285 22 = some (.ireturn, 23) := pm_of cl285_0 14 (q := (22, .ireturn, 23)) rfl
theorem c285_23 : pm_code 285 23 = some (.iconst 1, 24) := pm_of cl285_0 15 (q := (23, .iconst 1, 24)) rfl
theorem c285_24 : pm_code 285 24 = some (.istore_n 3, 25) := pm_of cl285_0 16 (q := (24, .istore_n 3, 25)) rfl
theorem c285_25 : pm_code 285 25 = some (.iload_n 3, 26) := pm_of cl285_0 17 (q := (25, .iload_n 3, 26)) rfl
theorem c285_26 : pm_code 285 26 = some (.sipush 600, 29) := pm_of cl285_0 18 (q := (26, .sipush 600, 29)) rfl
theorem c285_29 : pm_code 285 29 = some (.if_icmp .gt 27, 32) := pm_of cl285_0 19 (q := (29, .if_icmp .gt 27, 32)) rfl
theorem c285_32 : pm_code 285 32 = some (.aload_n 0, 33) := pm_of cl285_0 20 (q := (32, .aload_n 0, 33)) rfl
theorem c285_33 : pm_code 285 33 = some (.invokevirtual 401, 36) := pm_of cl285_0 21 (q := (33, .invokevirtual 401, 36)) rfl
theorem c285_36 : pm_code 285 36 = some (.aload_n 0, 37) := pm_of cl285_0 22 (q := (36, .aload_n 0, 37)) rfl
theorem c285_37 : pm_code 285 37 = some (.getfield 65, 40) := pm_of cl285_0 23 (q := (37, .getfield 65, 40)) rfl
theorem c285_40 : pm_code 285 40 = some (.iconst 0, 41) := pm_of cl285_0 24 (q := (40, .iconst 0, 41)) rfl
theorem c285_41 : pm_code 285 41 = some (.iload_n 1, 42) := pm_of cl285_0 25 (q := (41, .iload_n 1, 42)) rfl
theorem c285_42 : pm_code 285 42 = some (.iadd, 43) := pm_of cl285_0 26 (q := (42, .iadd, 43)) rfl
theorem c285_43 : pm_code 285 43 = some (.iaload, 44) := pm_of cl285_0 27 (q := (43, .iaload, 44)) rfl
theorem c285_44 : pm_code 285 44 = some (.iconst 3, 45) := pm_of cl285_0 28 (q := (44, .iconst 3, 45)) rfl
theorem c285_45 : pm_code 285 45 = some (.if_icmp .ne 5, 48) := pm_of cl285_0 29 (q := (45, .if_icmp .ne 5, 48)) rfl
theorem c285_48 : pm_code 285 48 = some (.iload_n 3, 49) := pm_of cl285_0 30 (q := (48, .iload_n 3, 49)) rfl
theorem c285_49 : pm_code 285 49 = some (.ireturn, 50) := pm_of cl285_0 31 (q := (49, .ireturn, 50)) rfl
theorem c285_50 : pm_code 285 50 = some (.iinc 3 1, 53) := pm_of cl285_0 32 (q := (50, .iinc 3 1, 53)) rfl
theorem c285_53 : pm_code 285 53 = some (.goto (-28), 56) := pm_of cl285_0 33 (q := (53, .goto (-28), 56)) rfl
theorem c285_56 : pm_code 285 56 = some (.iconst (-1), 57) := pm_of cl285_0 34 (q := (56, .iconst (-1), 57)) rfl
theorem c285_57 : pm_code 285 57 = some (.ireturn, 58) := pm_of cl285_0 35 (q := (57, .ireturn, 58)) rfl
theorem k286 : pm_k 286 = 12 := by decide +kernel
theorem ml286 : pm_ml 286 = 2 := by decide +kernel
theorem rt286 : pm_rt 286 = (some .int) := by decide +kernel
theorem hh286 : pm_hh 286 = [] := by decide +kernel
theorem rc286 : pm_cl 12 = (pm_y 286).cls := by decide +kernel
theorem cl286_0 : ([(0, .aload_n 0, 1), (1, .iconst 0, 2), (2, .putfield 3, 5), (5, .aload_n 0, 6), (6, .iload_n 1, 7), (7, .iconst 1, 8), (8, .invokevirtual 404, 11), (11, .ifCond .ne 5, 14), (14, .iconst 0, 15), (15, .ireturn, 16), (16, .aload_n 0, 17), (17, .iload_n 1, 18), (18, .iconst 1, 19), (19, .invokevirtual 410, 22), (22, .ireturn, 23)] : List (Nat × Instr × Nat)).all (fun q => decide (pm_code 286 q.1 = some q.2)) = true := by decide +kernel
theorem c286_0 : pm_code 286 0 = some (.aload_n 0, 1) := pm_of cl286_0 0 (q := (0, .aload_n 0, 1)) rfl
theorem c286_1 : pm_code 286 1 = some (.iconst 0, 2) := pm_of cl286_0 1 (q := (1, .iconst 0, 2)) rfl
theorem c286_2 : pm_code 286 2 = some (.putfield 3, 5) := pm_of cl286_0 2 (q := (2, .putfield 3, 5)) rfl
theorem c286_5 : pm_code 286 5 = some (.aload_n 0, 6) := pm_of cl286_0 3 (q := (5, .aload_n 0, 6)) rfl
theorem c286_6 : pm_code 286 6 = some (.iload_n 1, 7) := pm_of cl286_0 4 (q := (6, .iload_n 1, 7)) rfl
theorem c286_7 : pm_code 286 7 = some (.iconst 1, 8) := pm_of cl286_0 5 (q := (7, .iconst 1, 8)) rfl
theorem c286_8 : pm_code 286 8 = some (.invokevirtual 404, 11) := pm_of cl286_0 6 (q := (8, .invokevirtual 404, 11)) rfl
theorem c286_11 : pm_code 286 11 = some (.ifCond .ne 5, 14) := pm_of cl286_0 7 (q := (11, .ifCond .ne 5, 14)) rfl
theorem c286_14 : pm_code 286 14 = some (.iconst 0, 15) := pm_of cl286_0 8 (q := (14, .iconst 0, 15)) rfl
theorem c286_15 : pm_code 286 15 = some (.ireturn, 16) := pm_of cl286_0 9 (q := (15, .ireturn, 16)) rfl
theorem c286_16 : pm_code 286 16 = some (.aload_n 0, 17) := pm_of cl286_0 10 (q := (16, .aload_n 0, 17)) rfl
theorem c286_17 : pm_code 286 17 = some (.iload_n 1, 18) := pm_of cl286_0 11 (q := (17, .iload_n 1, 18)) rfl
theorem c286_18 : pm_code 286 18 = some (.iconst 1, 19) := pm_of cl286_0 12 (q := (18, .iconst 1, 19)) rfl
theorem c286_19 : pm_code 286 19 = some (.invokevirtual 410, 22) := pm_of cl286_0 13 (q := (19, .invokevirtual 410, 22)) rfl
theorem c286_22 : pm_code 286 22 = some (.ireturn, 23) := pm_of cl286_0 14 (q := (22, .ireturn, 23)) rfl
theorem k287 : pm_k 287 = 12 := by decide +kernel
theorem ml287 : pm_ml 287 = 4 := by decide +kernel
theorem rt287 : pm_rt 287 = (some .int) := by decide +kernel
theorem hh287 : pm_hh 287 = [] := by decide +kernel
theorem rc287 : pm_cl 12 = (pm_y 287).cls := by decide +kernel
theorem cl287_0 : ([(0, .aload_n 0, 1), (1, .iconst 0, 2), (2, .putfield 3, 5), (5, .aload_n 0, 6), (6, .iload_n 1, 7), (7, .iconst 0, 8), (8, .sipush 600, 11), (11, .invokestatic 290, 14), (14, .ifCond .eq 16, 17), (17, .iload_n 2, 18), (18, .iconst 0, 19), (19, .iconst 2, 20), (20, .invokestatic 290, 23), (23, .ifCond .eq 7, 26), (26, .iconst 1, 27), (27, .goto 4, 30), (30, .iconst 0, 31), (31, .iconst 1, 32), (32, .iconst 1, 33), (33, .invokevirtual 207, 36), (36, .ifCond .ne 5, 39), (39, .iconst 0, 40), (40, .ireturn, 41), (41, .aload_n 0, 42), (42, .invokevirtual 330, 45), (45, .iconst 0, 46), (46, .istore_n 3, 47), (47, .iload_n 3, 48), (48, .iload_n 1, 49), (49, .if_icmp .ge 13, 52), (52, .aload_n 0, 53), (53, .invokevirtual 401, 56), (56, .iinc 3 1, 59), (59, .goto (-12), 62), (62, .iload_n 2, 63), (63, .ifCond .ne 11, 66), (66, .aload_n 0, 67), (67, .iconst 3, 68), (68, .invokevirtual 374, 71), (71, .goto 19, 74)] : List (Nat × Instr × Nat)).all (fun q => decide (pm_code 287 q.1 = some q.2)) = true := by decide +kernel
theorem c287_0 : pm_code 287 0 = some (.aload_n 0, 1) := pm_of cl287_0 0 (q := (0, .aload_n 0, 1)) rfl
theorem c287_1 : pm_code 287 1 = some (.iconst 0, 2) := pm_of cl287_0 1 (q := (1, .iconst 0, 2)) rfl
theorem c287_2 : pm_code 287 2 = some (.putfield 3, 5) := pm_of cl287_0 2 (q := (2, .putfield 3, 5)) rfl
theorem c287_5 : pm_code 287 5 = some (.aload_n 0, 6) := pm_of cl287_0 3 (q := (5, .aload_n 0, 6)) rfl
theorem c287_6 : pm_code 287 6 = some (.iload_n 1, 7) := pm_of cl287_0 4 (q := (6, .iload_n 1, 7)) rfl
theorem c287_7 : pm_code 287 7 = some (.iconst 0, 8) := pm_of cl287_0 5 (q := (7, .iconst 0, 8)) rfl
theorem c287_8 : pm_code 287 8 = some (.sipush 600, 11) := pm_of cl287_0 6 (q := (8, .sipush 600, 11)) rfl
theorem c287_11 : pm_code 287 11 = some (.invokestatic 290, 14) := pm_of cl287_0 7 (q := (11, .invokestatic 290, 14)) rfl
theorem c287_14 : pm_code 287 14 = some (.ifCond .eq 16, 17) := pm_of cl287_0 8 (q := (14, .ifCond .eq 16, 17)) rfl
theorem c287_17 : pm_code 287 17 = some (.iload_n 2, 18) := pm_of cl287_0 9 (q := (17, .iload_n 2, 18)) rfl
theorem c287_18 : pm_code 287 18 = some (.iconst 0, 19) := pm_of cl287_0 10 (q := (18, .iconst 0, 19)) rfl
theorem c287_19 : pm_code 287 19 = some (.iconst 2, 20) := pm_of cl287_0 11 (q := (19, .iconst 2, 20)) rfl
theorem c287_20 : pm_code 287 20 = some (.invokestatic 290, 23) := pm_of cl287_0 12 (q := (20, .invokestatic 290, 23)) rfl
theorem c287_23 : pm_code 287 23 = some (.ifCond .eq 7, 26) := pm_of cl287_0 13 (q := (23, .ifCond .eq 7, 26)) rfl
theorem c287_26 : pm_code 287 26 = some (.iconst 1, 27) := pm_of cl287_0 14 (q := (26, .iconst 1, 27)) rfl
theorem c287_27 : pm_code 287 27 = some (.goto 4, 30) := pm_of cl287_0 15 (q := (27, .goto 4, 30)) rfl
theorem c287_30 : pm_code 287 30 = some (.iconst 0, 31) := pm_of cl287_0 16 (q := (30, .iconst 0, 31)) rfl
theorem c287_31 : pm_code 287 31 = some (.iconst 1, 32) := pm_of cl287_0 17 (q := (31, .iconst 1, 32)) rfl
theorem c287_32 : pm_code 287 32 = some (.iconst 1, 33) := pm_of cl287_0 18 (q := (32, .iconst 1, 33)) rfl
theorem c287_33 : pm_code 287 33 = some (.invokevirtual 207, 36) := pm_of cl287_0 19 (q := (33, .invokevirtual 207, 36)) rfl
theorem c287_36 : pm_code 287 36 = some (.ifCond .ne 5, 39) := pm_of cl287_0 20 (q := (36, .ifCond .ne 5, 39)) rfl
theorem c287_39 : pm_code 287 39 = some (.iconst 0, 40) := pm_of cl287_0 21 (q := (39, .iconst 0, 40)) rfl
theorem c287_40 : pm_code 287 40 = some (.ireturn, 41) := pm_of cl287_0 22 (q := (40, .ireturn, 41)) rfl
theorem c287_41 : pm_code 287 41 = some (.aload_n 0, 42) := pm_of cl287_0 23 (q := (41, .aload_n 0, 42)) rfl
theorem c287_42 : pm_code 287 42 = some (.invokevirtual 330, 45) := pm_of cl287_0 24 (q := (42, .invokevirtual 330, 45)) rfl
theorem c287_45 : pm_code 287 45 = some (.iconst 0, 46) := pm_of cl287_0 25 (q := (45, .iconst 0, 46)) rfl
theorem c287_46 : pm_code 287 46 = some (.istore_n 3, 47) := pm_of cl287_0 26 (q := (46, .istore_n 3, 47)) rfl
theorem c287_47 : pm_code 287 47 = some (.iload_n 3, 48) := pm_of cl287_0 27 (q := (47, .iload_n 3, 48)) rfl
theorem c287_48 : pm_code 287 48 = some (.iload_n 1, 49) := pm_of cl287_0 28 (q := (48, .iload_n 1, 49)) rfl
theorem c287_49 : pm_code 287 49 = some (.if_icmp .ge 13, 52) := pm_of cl287_0 29 (q := (49, .if_icmp .ge 13, 52)) rfl
theorem c287_52 : pm_code 287 52 = some (.aload_n 0, 53) := pm_of cl287_0 30 (q := (52, .aload_n 0, 53)) rfl
theorem c287_53 : pm_code 287 53 = some (.invokevirtual 401, 56) := pm_of cl287_0 31 (q := (53, .invokevirtual 401, 56)) rfl
theorem c287_56 : pm_code 287 56 = some (.iinc 3 1, 59) := pm_of cl287_0 32 (q := (56, .iinc 3 1, 59)) rfl
theorem c287_59 : pm_code 287 59 = some (.goto (-12), 62) := pm_of cl287_0 33 (q := (59, .goto (-12), 62)) rfl
theorem c287_62 : pm_code 287 62 = some (.iload_n 2, 63) := pm_of cl287_0 34 (q := (62, .iload_n 2, 63)) rfl
theorem c287_63 : pm_code 287 63 = some (.ifCond .ne 11, 66) := pm_of cl287_0 35 (q := (63, .ifCond .ne 11, 66)) rfl
theorem c287_66 : pm_code 287 66 = some (.aload_n 0, 67) := pm_of cl287_0 36 (q := (66, .aload_n 0, 67)) rfl
theorem c287_67 : pm_code 287 67 = some (.iconst 3, 68) := pm_of cl287_0 37 (q := (67, .iconst 3, 68)) rfl
theorem c287_68 : pm_code 287 68 = some (.invokevirtual 374, 71) := pm_of cl287_0 38 (q := (68, .invokevirtual 374, 71)) rfl
theorem c287_71 : pm_code 287 71 = some (.goto 19, 74) := pm_of cl287_0 39 (q := (71, .goto 19, 74)) rfl
theorem cl287_1 : ([(74, .iload_n 2, 75), (75, .iconst 1, 76), (76, .if_icmp .ne 10, 79), (79, .aload_n 0, 80), (80, .getfield 354, 83), (83, .goto 7, 86), (86, .aload_n 0, 87), (87, .getfield 351, 90), (90, .ireturn, 91)] : List (Nat × Instr × Nat)).all (fun q => decide (pm_code 287 q.1 = some q.2)) = true := by decide +kernel
theorem c287_74 : pm_code 287 74 = some (.iload_n 2, 75) := pm_of cl287_1 0 (q := (74, .iload_n 2, 75)) rfl
theorem c287_75 : pm_code 287 75 = some (.iconst 1, 76) := pm_of cl287_1 1 (q := (75, .iconst 1, 76)) rfl
theorem c287_76 : pm_code 287 76 = some (.if_icmp .ne 10, 79) := pm_of cl287_1 2 (q := (76, .if_icmp .ne 10, 79)) rfl
theorem c287_79 : pm_code 287 79 = some (.aload_n 0, 80) := pm_of cl287_1 3 (q := (79, .aload_n 0, 80)) rfl
theorem c287_80 : pm_code 287 80 = some (.getfield 354, 83) := pm_of cl287_1 4 (q := (80, .getfield 354, 83)) rfl
theorem c287_83 : pm_code 287 83 = some (.goto 7, 86) := pm_of cl287_1 5 (q := (83, .goto 7, 86)) rfl
theorem c287_86 : pm_code 287 86 = some (.aload_n 0, 87) := pm_of cl287_1 6 (q := (86, .aload_n 0, 87)) rfl
theorem c287_87 : pm_code 287 87 = some (.getfield 351, 90) := pm_of cl287_1 7 (q := (87, .getfield 351, 90)) rfl
theorem c287_90 : pm_code 287 90 = some (.ireturn, 91) := pm_of cl287_1 8 (q := (90, .ireturn, 91)) rfl
