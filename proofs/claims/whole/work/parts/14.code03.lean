/-! WHAT STANDS AT EVERY PLACE, ON -/
theorem k146 : pm_k 146 = 9 := by decide +kernel
theorem ml146 : pm_ml 146 = 1 := by decide +kernel
theorem rt146 : pm_rt 146 = (some .int) := by decide +kernel
theorem hh146 : pm_hh 146 = [] := by decide +kernel
theorem rc146 : pm_cl 9 = (pm_y 146).cls := by decide +kernel
theorem cl146_0 : ([(0, .aload_n 0, 1), (1, .getfield 15, 4), (4, .ireturn, 5)] : List (Nat × Instr × Nat)).all (fun q => decide (pm_code 146 q.1 = some q.2)) = true := by decide +kernel
theorem c146_0 : pm_code 146 0 = some (.aload_n 0, 1) := pm_of cl146_0 0 (q := (0, .aload_n 0, 1)) rfl
theorem c146_1 : pm_code 146 1 = some (.getfield 15, 4) := pm_of cl146_0 1 (q := (1, .getfield 15, 4)) rfl
theorem c146_4 : pm_code 146 4 = some (.ireturn, 5) := pm_of cl146_0 2 (q := (4, .ireturn, 5)) rfl
theorem k147 : pm_k 147 = 9 := by decide +kernel
theorem ml147 : pm_ml 147 = 1 := by decide +kernel
theorem rt147 : pm_rt 147 = (some .int) := by decide +kernel
theorem hh147 : pm_hh 147 = [] := by decide +kernel
theorem rc147 : pm_cl 9 = (pm_y 147).cls := by decide +kernel
theorem cl147_0 : ([(0, .aload_n 0, 1), (1, .getfield 19, 4), (4, .ireturn, 5)] : List (Nat × Instr × Nat)).all (fun q => decide (pm_code 147 q.1 = some q.2)) = true := by decide +kernel
theorem c147_0 : pm_code 147 0 = some (.aload_n 0, 1) := pm_of cl147_0 0 (q := (0, .aload_n 0, 1)) rfl
theorem c147_1 : pm_code 147 1 = some (.getfield 19, 4) := pm_of cl147_0 1 (q := (1, .getfield 19, 4)) rfl
theorem c147_4 : pm_code 147 4 = some (.ireturn, 5) := pm_of cl147_0 2 (q := (4, .ireturn, 5)) rfl
theorem k148 : pm_k 148 = 9 := by decide +kernel
theorem ml148 : pm_ml 148 = 1 := by decide +kernel
theorem rt148 : pm_rt 148 = (some .int) := by decide +kernel
theorem hh148 : pm_hh 148 = [] := by decide +kernel
theorem rc148 : pm_cl 9 = (pm_y 148).cls := by decide +kernel
theorem cl148_0 : ([(0, .aload_n 0, 1), (1, .getfield 22, 4), (4, .ireturn, 5)] : List (Nat × Instr × Nat)).all (fun q => decide (pm_code 148 q.1 = some q.2)) = true := by decide +kernel
theorem c148_0 : pm_code 148 0 = some (.aload_n 0, 1) := pm_of cl148_0 0 (q := (0, .aload_n 0, 1)) rfl
theorem c148_1 : pm_code 148 1 = some (.getfield 22, 4) := pm_of cl148_0 1 (q := (1, .getfield 22, 4)) rfl
theorem c148_4 : pm_code 148 4 = some (.ireturn, 5) := pm_of cl148_0 2 (q := (4, .ireturn, 5)) rfl
theorem k149 : pm_k 149 = 9 := by decide +kernel
theorem ml149 : pm_ml 149 = 1 := by decide +kernel
theorem rt149 : pm_rt 149 = (some .int) := by decide +kernel
theorem hh149 : pm_hh 149 = [] := by decide +kernel
theorem rc149 : pm_cl 9 = (pm_y 149).cls := by decide +kernel
theorem cl149_0 : ([(0, .aload_n 0, 1), (1, .getfield 25, 4), (4, .ireturn, 5)] : List (Nat × Instr × Nat)).all (fun q => decide (pm_code 149 q.1 = some q.2)) = true := by decide +kernel
theorem c149_0 : pm_code 149 0 = some (.aload_n 0, 1) := pm_of cl149_0 0 (q := (0, .aload_n 0, 1)) rfl
theorem c149_1 : pm_code 149 1 = some (.getfield 25, 4) := pm_of cl149_0 1 (q := (1, .getfield 25, 4)) rfl
theorem c149_4 : pm_code 149 4 = some (.ireturn, 5) := pm_of cl149_0 2 (q := (4, .ireturn, 5)) rfl
theorem k150 : pm_k 150 = 9 := by decide +kernel
theorem ml150 : pm_ml 150 = 6 := by decide +kernel
theorem rt150 : pm_rt 150 = none := by decide +kernel
theorem hh150 : pm_hh 150 = [] := by decide +kernel
theorem rc150 : pm_cl 9 = (pm_y 150).cls := by decide +kernel
theorem cl150_0 : ([(0, .iconst 0, 1), (1, .istore_n 2, 2), (2, .iconst 0, 3), (3, .istore_n 3, 4), (4, .aload_n 0, 5), (5, .aload_n 0, 6), (6, .getfield 15, 9), (9, .putfield 31, 12), (12, .sipush 999, 15), (15, .istore 4, 17), (17, .iload 4, 19), (19, .ifCond .lt 85, 22), (22, .iload_n 3, 23), (23, .aload_n 0, 24), (24, .getfield 15, 27), (27, .iload_n 2, 28), (28, .isub, 29), (29, .invokestatic 62, 32), (32, .istore 5, 34), (34, .iload 4, 36), (36, .sipush 499, 39), (39, .if_icmp .gt 33, 42), (42, .iload 5, 44), (44, .aload_n 0, 45), (45, .getfield 31, 48), (48, .if_icmp .gt 24, 51), (51, .aload_n 1, 52), (52, .iload 4, 54), (54, .invokevirtual 73, 57), (57, .ifCond .ne 15, 60), (60, .aload_n 0, 61), (61, .iload 4, 63), (63, .putfield 28, 66), (66, .aload_n 0, 67), (67, .iload 5, 69), (69, .putfield 31, 72), (72, .iload_n 2, 73), (73, .aload_n 0, 74), (74, .getfield 9, 77), (77, .iload 4, 79)] : List (Nat × Instr × Nat)).all (fun q => decide (pm_code 150 q.1 = some q.2)) = true := by decide +kernel
theorem c150_0 : pm_code 150 0 = some (.iconst 0, 1) := pm_of cl150_0 0 (q := (0, .iconst 0, 1)) rfl
theorem c150_1 : pm_code 150 1 = some (.istore_n 2, 2) := pm_of cl150_0 1 (q := (1, .istore_n 2, 2)) rfl
theorem c150_2 : pm_code 150 2 = some (.iconst 0, 3) := pm_of cl150_0 2 (q := (2, .iconst 0, 3)) rfl
theorem c150_3 : pm_code 150 3 = some (.istore_n 3, 4) := pm_of cl150_0 3 (q := (3, .istore_n 3, 4)) rfl
theorem c150_4 : pm_code 150 4 = some (.aload_n 0, 5) := pm_of cl150_0 4 (q := (4, .aload_n 0, 5)) rfl
theorem c150_5 : pm_code 150 5 = some (.aload_n 0, 6) := pm_of cl150_0 5 (q := (5, .aload_n 0, 6)) rfl
theorem c150_6 : pm_code 150 6 = some (.getfield 15, 9) := pm_of cl150_0 6 (q := (6, .getfield 15, 9)) rfl
theorem c150_9 : pm_code 150 9 = some (.putfield 31, 12) := pm_of cl150_0 7 (q := (9, .putfield 31, 12)) rfl
theorem c150_12 : pm_code 150 12 = some (.sipush 999, 15) := pm_of cl150_0 8 (q := (12, .sipush 999, 15)) rfl
theorem c150_15 : pm_code 150 15 = some (.istore 4, 17) := pm_of cl150_0 9 (q := (15, .istore 4, 17)) rfl
theorem c150_17 : pm_code 150 17 = some (.iload 4, 19) := pm_of cl150_0 10 (q := (17, .iload 4, 19)) rfl
theorem c150_19 : pm_code 150 19 = some (.ifCond .lt 85, 22) := pm_of cl150_0 11 (q := (19, .ifCond .lt 85, 22)) rfl
theorem c150_22 : pm_code 150 22 = some (.iload_n 3, 23) := pm_of cl150_0 12 (q := (22, .iload_n 3, 23)) rfl
theorem c150_23 : pm_code 150 23 = some (.aload_n 0, 24) := pm_of cl150_0 13 (q := (23, .aload_n 0, 24)) rfl
theorem c150_24 : pm_code 150 24 = some (.getfield 15, 27) := pm_of cl150_0 14 (q := (24, .getfield 15, 27)) rfl
theorem c150_27 : pm_code 150 27 = some (.iload_n 2, 28) := pm_of cl150_0 15 (q := (27, .iload_n 2, 28)) rfl
theorem c150_28 : pm_code 150 28 = some (.isub, 29) := pm_of cl150_0 16 (q := (28, .isub, 29)) rfl
theorem c150_29 : pm_code 150 29 = some (.invokestatic 62, 32) := pm_of cl150_0 17 (q := (29, .invokestatic 62, 32)) rfl
theorem c150_32 : pm_code 150 32 = some (.istore 5, 34) := pm_of cl150_0 18 (q := (32, .istore 5, 34)) rfl
theorem c150_34 : pm_code 150 34 = some (.iload 4, 36) := pm_of cl150_0 19 (q := (34, .iload 4, 36)) rfl
theorem c150_36 : pm_code 150 36 = some (.sipush 499, 39) := pm_of cl150_0 20 (q := (36, .sipush 499, 39)) rfl
theorem c150_39 : pm_code 150 39 = some (.if_icmp .gt 33, 42) := pm_of cl150_0 21 (q := (39, .if_icmp .gt 33, 42)) rfl
theorem c150_42 : pm_code 150 42 = some (.iload 5, 44) := pm_of cl150_0 22 (q := (42, .iload 5, 44)) rfl
theorem c150_44 : pm_code 150 44 = some (.aload_n 0, 45) := pm_of cl150_0 23 (q := (44, .aload_n 0, 45)) rfl
theorem c150_45 : pm_code 150 45 = some (.getfield 31, 48) := pm_of cl150_0 24 (q := (45, .getfield 31, 48)) rfl
theorem c150_48 : pm_code 150 48 = some (.if_icmp .gt 24, 51) := pm_of cl150_0 25 (q := (48, .if_icmp .gt 24, 51)) rfl
theorem c150_51 : pm_code 150 51 = some (.aload_n 1, 52) := pm_of cl150_0 26 (q := (51, .aload_n 1, 52)) rfl
theorem c150_52 : pm_code 150 52 = some (.iload 4, 54) := pm_of cl150_0 27 (q := (52, .iload 4, 54)) rfl
theorem c150_54 : pm_code 150 54 = some (.invokevirtual 73, 57) := pm_of cl150_0 28 (q := (54, .invokevirtual 73, 57)) rfl
theorem c150_57 : pm_code 150 57 = some (.ifCond .ne 15, 60) := pm_of cl150_0 29 (q := (57, .ifCond .ne 15, 60)) rfl
theorem c150_60 : pm_code 150 60 = some (.aload_n 0, 61) := pm_of cl150_0 30 (q := (60, .aload_n 0, 61)) rfl
theorem c150_61 : pm_code 150 61 = some (.iload 4, 63) := pm_of cl150_0 31 (q := (61, .iload 4, 63)) rfl
theorem c150_63 : pm_code 150 63 = some (.putfield 28, 66) := pm_of cl150_0 32 (q := (63, .putfield 28, 66)) rfl
theorem c150_66 : pm_code 150 66 = some (.aload_n 0, 67) := pm_of cl150_0 33 (q := (66, .aload_n 0, 67)) rfl
theorem c150_67 : pm_code 150 67 = some (.iload 5, 69) := pm_of cl150_0 34 (q := (67, .iload 5, 69)) rfl
theorem c150_69 : pm_code 150 69 = some (.putfield 31, 72) := pm_of cl150_0 35 (q := (69, .putfield 31, 72)) rfl
theorem c150_72 : pm_code 150 72 = some (.iload_n 2, 73) := pm_of cl150_0 36 (q := (72, .iload_n 2, 73)) rfl
theorem c150_73 : pm_code 150 73 = some (.aload_n 0, 74) := pm_of cl150_0 37 (q := (73, .aload_n 0, 74)) rfl
theorem c150_74 : pm_code 150 74 = some (.getfield 9, 77) := pm_of cl150_0 38 (q := (74, .getfield 9, 77)) rfl
theorem c150_77 : pm_code 150 77 = some (.iload 4, 79) := pm_of cl150_0 39 (q := (77, .iload 4, 79)) rfl
theorem cl150_1 : ([(79, .invokestatic 65, 82), (82, .iadd, 83), (83, .istore_n 2, 84), (84, .iload_n 3, 85), (85, .aload_n 0, 86), (86, .getfield 9, 89), (89, .iload 4, 91), (91, .invokestatic 65, 94), (94, .invokestatic 62, 97), (97, .istore_n 3, 98), (98, .iinc 4 (-1), 101), (101, .goto (-84), 104), (104, .return_, 105)] : List (Nat × Instr × Nat)).all (fun q => decide (pm_code 150 q.1 = some q.2)) = true := by decide +kernel
theorem c150_79 : pm_code 150 79 = some (.invokestatic 65, 82) := pm_of cl150_1 0 (q := (79, .invokestatic 65, 82)) rfl
theorem c150_82 : pm_code 150 82 = some (.iadd, 83) := pm_of cl150_1 1 (q := (82, .iadd, 83)) rfl
theorem c150_83 : pm_code 150 83 = some (.istore_n 2, 84) := pm_of cl150_1 2 (q := (83, .istore_n 2, 84)) rfl
theorem c150_84 : pm_code 150 84 = some (.iload_n 3, 85) := pm_of cl150_1 3 (q := (84, .iload_n 3, 85)) rfl
theorem c150_85 : pm_code 150 85 = some (.aload_n 0, 86) := pm_of cl150_1 4 (q := (85, .aload_n 0, 86)) rfl
theorem c150_86 : pm_code 150 86 = some (.getfield 9, 89) := pm_of cl150_1 5 (q := (86, .getfield 9, 89)) rfl
theorem c150_89 : pm_code 150 89 = some (.iload 4, 91) := pm_of cl150_1 6 (q := (89, .iload 4, 91)) rfl
theorem c150_91 : pm_code 150 91 = some (.invokestatic 65, 94) := pm_of cl150_1 7 (q := (91, .invokestatic 65, 94)) rfl
theorem c150_94 : pm_code 150 94 = some (.invokestatic 62, 97) := pm_of cl150_1 8 (q := (94, .invokestatic 62, 97)) rfl
theorem c150_97 : pm_code 150 97 = some (.istore_n 3, 98) := pm_of cl150_1 9 (q := (97, .istore_n 3, 98)) rfl
theorem c150_98 : pm_code 150 98 = some (.iinc 4 (-1), 101) := pm_of cl150_1 10 (q := (98, .iinc 4 (-1), 101)) rfl
theorem c150_101 : pm_code 150 101 = some (.goto (-84), 104) := pm_of cl150_1 11 (q := (101, .goto (-84), 104)) rfl
theorem c150_104 : pm_code 150 104 = some (.return_, 105) := pm_of cl150_1 12 (q := (104, .return_, 105)) rfl
theorem k151 : pm_k 151 = 9 := by decide +kernel
theorem ml151 : pm_ml 151 = 1 := by decide +kernel
theorem rt151 : pm_rt 151 = (some .int) := by decide +kernel
theorem hh151 : pm_hh 151 = [] := by decide +kernel
theorem rc151 : pm_cl 9 = (pm_y 151).cls := by decide +kernel
theorem cl151_0 : ([(0, .aload_n 0, 1), (1, .getfield 28, 4), (4, .ireturn, 5)] : List (Nat × Instr × Nat)).all (fun q => decide (pm_code 151 q.1 = some q.2)) = true := by decide +kernel
theorem c151_0 : pm_code 151 0 = some (.aload_n 0, 1) := pm_of cl151_0 0 (q := (0, .aload_n 0, 1)) rfl
theorem c151_1 : pm_code 151 1 = some (.getfield 28, 4) := pm_of cl151_0 1 (q := (1, .getfield 28, 4)) rfl
theorem c151_4 : pm_code 151 4 = some (.ireturn, 5) := pm_of cl151_0 2 (q := (4, .ireturn, 5)) rfl
theorem k152 : pm_k 152 = 9 := by decide +kernel
theorem ml152 : pm_ml 152 = 1 := by decide +kernel
theorem rt152 : pm_rt 152 = (some .int) := by decide +kernel
theorem hh152 : pm_hh 152 = [] := by decide +kernel
theorem rc152 : pm_cl 9 = (pm_y 152).cls := by decide +kernel
theorem cl152_0 : ([(0, .aload_n 0, 1), (1, .getfield 31, 4), (4, .ireturn, 5)] : List (Nat × Instr × Nat)).all (fun q => decide (pm_code 152 q.1 = some q.2)) = true := by decide +kernel
theorem c152_0 : pm_code 152 0 = some (.aload_n 0, 1) := pm_of cl152_0 0 (q := (0, .aload_n 0, 1)) rfl
theorem c152_1 : pm_code 152 1 = some (.getfield 31, 4) := pm_of cl152_0 1 (q := (1, .getfield 31, 4)) rfl
theorem c152_4 : pm_code 152 4 = some (.ireturn, 5) := pm_of cl152_0 2 (q := (4, .ireturn, 5)) rfl
theorem k153 : pm_k 153 = 10 := by decide +kernel
theorem ml153 : pm_ml 153 = 1 := by decide +kernel
theorem rt153 : pm_rt 153 = none := by decide +kernel
theorem hh153 : pm_hh 153 = [] := by decide +kernel
theorem rc153 : pm_cl 10 = (pm_y 153).cls := by decide +kernel
theorem cl153_0 : ([(0, .aload_n 0, 1), (1, .invokespecial 3, 4), (4, .aload_n 0, 5), (5, .iconst 0, 6), (6, .putfield 9, 9), (9, .aload_n 0, 10), (10, .iconst 0, 11), (11, .putfield 15, 14), (14, .aload_n 0, 15), (15, .iconst 0, 16), (16, .putfield 18, 19), (19, .return_, 20)] : List (Nat × Instr × Nat)).all (fun q => decide (pm_code 153 q.1 = some q.2)) = true := by decide +kernel
theorem c153_0 : pm_code 153 0 = some (.aload_n 0, 1) := pm_of cl153_0 0 (q := (0, .aload_n 0, 1)) rfl
theorem c153_1 : pm_code 153 1 = some (.invokespecial 3, 4) := pm_of cl153_0 1 (q := (1, .invokespecial 3, 4)) rfl
theorem c153_4 : pm_code 153 4 = some (.aload_n 0, 5) := pm_of cl153_0 2 (q := (4, .aload_n 0, 5)) rfl
theorem c153_5 : pm_code 153 5 = some (.iconst 0, 6) := pm_of cl153_0 3 (q := (5, .iconst 0, 6)) rfl
theorem c153_6 : pm_code 153 6 = some (.putfield 9, 9) := pm_of cl153_0 4 (q := (6, .putfield 9, 9)) rfl
theorem c153_9 : pm_code 153 9 = some (.aload_n 0, 10) := pm_of cl153_0 5 (q := (9, .aload_n 0, 10)) rfl
theorem c153_10 : pm_code 153 10 = some (.iconst 0, 11) := pm_of cl153_0 6 (q := (10, .iconst 0, 11)) rfl
theorem c153_11 : pm_code 153 11 = some (.putfield 15, 14) := pm_of cl153_0 7 (q := (11, .putfield 15, 14)) rfl
theorem c153_14 : pm_code 153 14 = some (.aload_n 0, 15) := pm_of cl153_0 8 (q := (14, .aload_n 0, 15)) rfl
theorem c153_15 : pm_code 153 15 = some (.iconst 0, 16) := pm_of cl153_0 9 (q := (15, .iconst 0, 16)) rfl
theorem c153_16 : pm_code 153 16 = some (.putfield 18, 19) := pm_of cl153_0 10 (q := (16, .putfield 18, 19)) rfl
theorem c153_19 : pm_code 153 19 = some (.return_, 20) := pm_of cl153_0 11 (q := (19, .return_, 20)) rfl
theorem k154 : pm_k 154 = 10 := by decide +kernel
theorem ml154 : pm_ml 154 = 9 := by decide +kernel
theorem rt154 : pm_rt 154 = none := by decide +kernel
theorem hh154 : pm_hh 154 = [] := by decide +kernel
theorem rc154 : pm_cl 10 = (pm_y 154).cls := by decide +kernel
theorem cl154_0 : ([(0, .aload_n 1, 1), (1, .iconst 0, 2), (2, .invokevirtual 21, 5), (5, .istore 6, 7), (7, .iload_n 2, 8), (8, .istore 7, 10), (10, .aload_n 0, 11), (11, .iconst 0, 12), (12, .putfield 9, 15), (15, .aload_n 0, 16), (16, .iconst 0, 17), (17, .putfield 18, 20), (20, .aload_n 0, 21), (21, .aload_n 1, 22), (22, .invokevirtual 27, 25), (25, .invokevirtual 31, 28), (28, .putfield 15, 31), (31, .iconst 0, 32), (32, .istore 8, 34), (34, .iload 8, 36), (36, .iload 5, 38), (38, .if_icmp .ge 92, 41), (41, .iload 7, 43), (43, .ldc 37, 45), (45, .imul, 46), (46, .sipush 12345, 49), (49, .iadd, 50), (50, .istore 7, 52), (52, .iload 7, 54), (54, .bipush 16, 56), (56, .iushr, 57), (57, .bipush 15, 59), (59, .iand, 60), (60, .iload_n 3, 61), (61, .if_icmp .ge 28, 64), (64, .aload_n 0, 65), (65, .dup, 66), (66, .getfield 18, 69), (69, .iconst 1, 70), (70, .iadd, 71)] : List (Nat × Instr × Nat)).all (fun q => decide (pm_code 154 q.1 = some q.2)) = true := by decide +kernel
theorem c154_0 : pm_code 154 0 = some (.aload_n 1, 1) := pm_of cl154_0 0 (q := (0, .aload_n 1, 1)) rfl
theorem c154_1 : pm_code 154 1 = some (.iconst 0, 2) := pm_of cl154_0 1 (q := (1, .iconst 0, 2)) rfl
theorem c154_2 : pm_code 154 2 = some (.invokevirtual 21, 5) := pm_of cl154_0 2 (q := (2, .invokevirtual 21, 5)) rfl
theorem c154_5 : pm_code 154 5 = some (.istore 6, 7) := pm_of cl154_0 3 (q := (5, .istore 6, 7)) rfl
theorem c154_7 : pm_code 154 7 = some (.iload_n 2, 8) := pm_of cl154_0 4 (q := (7, .iload_n 2, 8)) rfl
theorem c154_8 : pm_code 154 8 = some (.istore 7, 10) := pm_of cl154_0 5 (q := (8, .istore 7, 10)) rfl
theorem c154_10 : pm_code 154 10 = some (.aload_n 0, 11) := pm_of cl154_0 6 (q := (10, .aload_n 0, 11)) rfl
theorem c154_11 : pm_code 154 11 = some (.iconst 0, 12) := pm_of cl154_0 7 (q := (11, .iconst 0, 12)) rfl
theorem c154_12 : pm_code 154 12 = some (.putfield 9, 15) := pm_of cl154_0 8 (q := (12, .putfield 9, 15)) rfl
theorem c154_15 : pm_code 154 15 = some (.aload_n 0, 16) := pm_of cl154_0 9 (q := (15, .aload_n 0, 16)) rfl
theorem c154_16 : pm_code 154 16 = some (.iconst 0, 17) := pm_of cl154_0 10 (q := (16, .iconst 0, 17)) rfl
theorem c154_17 : pm_code 154 17 = some (.putfield 18, 20) := pm_of cl154_0 11 (q := (17, .putfield 18, 20)) rfl
theorem c154_20 : pm_code 154 20 = some (.aload_n 0, 21) := pm_of cl154_0 12 (q := (20, .aload_n 0, 21)) rfl
theorem c154_21 : pm_code 154 21 = some (.aload_n 1, 22) := pm_of cl154_0 13 (q := (21, .aload_n 1, 22)) rfl
theorem c154_22 : pm_code 154 22 = some (.invokevirtual 27, 25) := pm_of cl154_0 14 (q := (22, .invokevirtual 27, 25)) rfl
theorem c154_25 : pm_code 154 25 = some (.invokevirtual 31, 28) := pm_of cl154_0 15 (q := (25, .invokevirtual 31, 28)) rfl
theorem c154_28 : pm_code 154 28 = some (.putfield 15, 31) := pm_of cl154_0 16 (q := (28, .putfield 15, 31)) rfl
theorem c154_31 : pm_code 154 31 = some (.iconst 0, 32) := pm_of cl154_0 17 (q := (31, .iconst 0, 32)) rfl
theorem c154_32 : pm_code 154 32 = some (.istore 8, 34) := pm_of cl154_0 18 (q := (32, .istore 8, 34)) rfl
theorem c154_34 : pm_code 154 34 = some (.iload 8, 36) := pm_of cl154_0 19 (q := (34, .iload 8, 36)) rfl
theorem c154_36 : pm_code 154 36 = some (.iload 5, 38) := pm_of cl154_0 20 (q := (36, .iload 5, 38)) rfl
theorem c154_38 : pm_code 154 38 = some (.if_icmp .ge 92, 41) := pm_of cl154_0 21 (q := (38, .if_icmp .ge 92, 41)) rfl
theorem c154_41 : pm_code 154 41 = some (.iload 7, 43) := pm_of cl154_0 22 (q := (41, .iload 7, 43)) rfl
theorem c154_43 : pm_code 154 43 = some (.ldc 37, 45) := pm_of cl154_0 23 (q := (43, .ldc 37, 45)) rfl
theorem c154_45 : pm_code 154 45 = some (.imul, 46) := pm_of cl154_0 24 (q := (45, .imul, 46)) rfl
theorem c154_46 : pm_code 154 46 = some (.sipush 12345, 49) := pm_of cl154_0 25 (q := (46, .sipush 12345, 49)) rfl
theorem c154_49 : pm_code 154 49 = some (.iadd, 50) := pm_of cl154_0 26 (q := (49, .iadd, 50)) rfl
theorem c154_50 : pm_code 154 50 = some (.istore 7, 52) := pm_of cl154_0 27 (q := (50, .istore 7, 52)) rfl
theorem c154_52 : pm_code 154 52 = some (.iload 7, 54) := pm_of cl154_0 28 (q := (52, .iload 7, 54)) rfl
theorem c154_54 : pm_code 154 54 = some (.bipush 16, 56) := pm_of cl154_0 29 (q := (54, .bipush 16, 56)) rfl
theorem c154_56 : pm_code 154 56 = some (.iushr, 57) := pm_of cl154_0 30 (q := (56, .iushr, 57)) rfl
theorem c154_57 : pm_code 154 57 = some (.bipush 15, 59) := pm_of cl154_0 31 (q := (57, .bipush 15, 59)) rfl
theorem c154_59 : pm_code 154 59 = some (.iand, 60) := pm_of cl154_0 32 (q := (59, .iand, 60)) rfl
theorem c154_60 : pm_code 154 60 = some (.iload_n 3, 61) := pm_of cl154_0 33 (q := (60, .iload_n 3, 61)) rfl
theorem c154_61 : pm_code 154 61 = some (.if_icmp .ge 28, 64) := pm_of cl154_0 34 (q := (61, .if_icmp .ge 28, 64)) rfl
theorem c154_64 : pm_code 154 64 = some (.aload_n 0, 65) := pm_of cl154_0 35 (q := (64, .aload_n 0, 65)) rfl
theorem c154_65 : pm_code 154 65 = some (.dup, 66) := pm_of cl154_0 36 (q := (65, .dup, 66)) rfl
theorem c154_66 : pm_code 154 66 = some (.getfield 18, 69) := pm_of cl154_0 37 (q := (66, .getfield 18, 69)) rfl
theorem c154_69 : pm_code 154 69 = some (.iconst 1, 70) := pm_of cl154_0 38 (q := (69, .iconst 1, 70)) rfl
theorem c154_70 : pm_code 154 70 = some (.iadd, 71) := pm_of cl154_0 39 (q := (70, .iadd, 71)) rfl
theorem cl154_1 : ([(71, .putfield 18, 74), (74, .aload_n 0, 75), (75, .iconst 0, 76), (76, .aload_n 0, 77), (77, .getfield 15, 80), (80, .iload 4, 82), (82, .isub, 83), (83, .invokestatic 38, 86), (86, .putfield 15, 89), (89, .aload_n 0, 90), (90, .dup, 91), (91, .getfield 9, 94), (94, .iconst 0, 95), (95, .iload 6, 97), (97, .aload_n 0, 98), (98, .getfield 15, 101), (101, .isub, 102), (102, .invokestatic 38, 105), (105, .iadd, 106), (106, .putfield 9, 109), (109, .aload_n 0, 110), (110, .iconst 0, 111), (111, .aload_n 0, 112), (112, .getfield 15, 115), (115, .iload 6, 117), (117, .isub, 118), (118, .invokestatic 38, 121), (121, .putfield 15, 124), (124, .iinc 8 1, 127), (127, .goto (-93), 130), (130, .return_, 131)] : List (Nat × Instr × Nat)).all (fun q => decide (pm_code 154 q.1 = some q.2)) = true := by decide +kernel
theorem c154_71 : pm_code 154 71 = some (.putfield 18, 74) := pm_of cl154_1 0 (q := (71, .putfield 18, 74)) rfl
theorem c154_74 : pm_code 154 74 = some (.aload_n 0, 75) := pm_of cl154_1 1 (q := (74, .aload_n 0, 75)) rfl
theorem c154_75 : pm_code 154 75 = some (.iconst 0, 76) := pm_of cl154_1 2 (q := (75, .iconst 0, 76)) rfl
theorem c154_76 : pm_code 154 76 = some (.aload_n 0, 77) := pm_of cl154_1 3 (q := (76, .aload_n 0, 77)) rfl
theorem c154_77 : pm_code 154 77 = some (.getfield 15, 80) := pm_of cl154_1 4 (q := (77, .getfield 15, 80)) rfl
theorem c154_80 : pm_code 154 80 = some (.iload 4, 82) := pm_of cl154_1 5 (q := (80, .iload 4, 82)) rfl
theorem c154_82 : pm_code 154 82 = some (.isub, 83) := pm_of cl154_1 6 (q := (82, .isub, 83)) rfl
theorem c154_83 : pm_code 154 83 = some (.invokestatic 38, 86) := pm_of cl154_1 7 (q := (83, .invokestatic 38, 86)) rfl
theorem c154_86 : pm_code 154 86 = some (.putfield 15, 89) := pm_of cl154_1 8 (q := (86, .putfield 15, 89)) rfl
theorem c154_89 : pm_code 154 89 = some (.aload_n 0, 90) := pm_of cl154_1 9 (q := (89, .aload_n 0, 90)) rfl
theorem c154_90 : pm_code 154 90 = some (.dup, 91) := pm_of cl154_1 10 (q := (90, .dup, 91)) rfl
theorem c154_91 : pm_code 154 91 = some (.getfield 9, 94) := pm_of cl154_1 11 (q := (91, .getfield 9, 94)) rfl
theorem c154_94 : pm_code 154 94 = some (.iconst 0, 95) := pm_of cl154_1 12 (q := (94, .iconst 0, 95)) rfl
theorem c154_95 : pm_code 154 95 = some (.iload 6, 97) := pm_of cl154_1 13 (q := (95, .iload 6, 97)) rfl
theorem c154_97 : pm_code 154 97 = some (.aload_n 0, 98) := pm_of cl154_1 14 (q := (97, .aload_n 0, 98)) rfl
theorem c154_98 : pm_code 154 98 = some (.getfield 15, 101) := pm_of cl154_1 15 (q := (98, .getfield 15, 101)) rfl
theorem c154_101 : pm_code 154 101 = some (.isub, 102) := pm_of cl154_1 16 (q := (101, .isub, 102)) rfl
theorem c154_102 : pm_code 154 102 = some (.invokestatic 38, 105) := pm_of cl154_1 17 (q := (102, .invokestatic 38, 105)) rfl
theorem c154_105 : pm_code 154 105 = some (.iadd, 106) := pm_of cl154_1 18 (q := (105, .iadd, 106)) rfl
theorem c154_106 : pm_code 154 106 = some (.putfield 9, 109) := pm_of cl154_1 19 (q := (106, .putfield 9, 109)) rfl
theorem c154_109 : pm_code 154 109 = some (.aload_n 0, 110) := pm_of cl154_1 20 (q := (109, .aload_n 0, 110)) rfl
theorem c154_110 : pm_code 154 110 = some (.iconst 0, 111) := pm_of cl154_1 21 (q := (110, .iconst 0, 111)) rfl
theorem c154_111 : pm_code 154 111 = some (.aload_n 0, 112) := pm_of cl154_1 22 (q := (111, .aload_n 0, 112)) rfl
theorem c154_112 : pm_code 154 112 = some (.getfield 15, 115) := pm_of cl154_1 23 (q := (112, .getfield 15, 115)) rfl
theorem c154_115 : pm_code 154 115 = some (.iload 6, 117) := pm_of cl154_1 24 (q := (115, .iload 6, 117)) rfl
theorem c154_117 : pm_code 154 117 = some (.isub, 118) := pm_of cl154_1 25 (q := (117, .isub, 118)) rfl
theorem c154_118 : pm_code 154 118 = some (.invokestatic 38, 121) := pm_of cl154_1 26 (q := (118, .invokestatic 38, 121)) rfl
theorem c154_121 : pm_code 154 121 = some (.putfield 15, 124) := pm_of cl154_1 27 (q := (121, .putfield 15, 124)) rfl
theorem c154_124 : pm_code 154 124 = some (.iinc 8 1, 127) := pm_of cl154_1 28 (q := (124, .iinc 8 1, 127)) rfl
theorem c154_127 : pm_code 154 127 = some (.goto (-93), 130) := pm_of cl154_1 29 (q := (127, .goto (-93), 130)) rfl
theorem c154_130 : pm_code 154 130 = some (.return_, 131) := pm_of cl154_1 30 (q := (130, .return_, 131)) rfl
theorem k155 : pm_k 155 = 10 := by decide +kernel
theorem ml155 : pm_ml 155 = 1 := by decide +kernel
theorem rt155 : pm_rt 155 = (some .int) := by decide +kernel
theorem hh155 : pm_hh 155 = [] := by decide +kernel
theorem rc155 : pm_cl 10 = (pm_y 155).cls := by decide +kernel
theorem cl155_0 : ([(0, .aload_n 0, 1), (1, .getfield 9, 4), (4, .ireturn, 5)] : List (Nat × Instr × Nat)).all (fun q => decide (pm_code 155 q.1 = some q.2)) = true := by decide +kernel
theorem c155_0 : pm_code 155 0 = some (.aload_n 0, 1) := pm_of cl155_0 0 (q := (0, .aload_n 0, 1)) rfl
theorem c155_1 : pm_code 155 1 = some (.getfield 9, 4) := pm_of cl155_0 1 (q := (1, .getfield 9, 4)) rfl
theorem c155_4 : pm_code 155 4 = some (.ireturn, 5) := pm_of cl155_0 2 (q := (4, .ireturn, 5)) rfl
theorem k156 : pm_k 156 = 10 := by decide +kernel
theorem ml156 : pm_ml 156 = 1 := by decide +kernel
theorem rt156 : pm_rt 156 = (some .int) := by decide +kernel
theorem hh156 : pm_hh 156 = [] := by decide +kernel
theorem rc156 : pm_cl 10 = (pm_y 156).cls := by decide +kernel
theorem cl156_0 : ([(0, .aload_n 0, 1), (1, .getfield 15, 4), (4, .ireturn, 5)] : List (Nat × Instr × Nat)).all (fun q => decide (pm_code 156 q.1 = some q.2)) = true := by decide +kernel
theorem c156_0 : pm_code 156 0 = some (.aload_n 0, 1) := pm_of cl156_0 0 (q := (0, .aload_n 0, 1)) rfl
theorem c156_1 : pm_code 156 1 = some (.getfield 15, 4) := pm_of cl156_0 1 (q := (1, .getfield 15, 4)) rfl
theorem c156_4 : pm_code 156 4 = some (.ireturn, 5) := pm_of cl156_0 2 (q := (4, .ireturn, 5)) rfl
theorem k157 : pm_k 157 = 10 := by decide +kernel
theorem ml157 : pm_ml 157 = 1 := by decide +kernel
theorem rt157 : pm_rt 157 = (some .int) := by decide +kernel
theorem hh157 : pm_hh 157 = [] := by decide +kernel
theorem rc157 : pm_cl 10 = (pm_y 157).cls := by decide +kernel
theorem cl157_0 : ([(0, .aload_n 0, 1), (1, .getfield 18, 4), (4, .ireturn, 5)] : List (Nat × Instr × Nat)).all (fun q => decide (pm_code 157 q.1 = some q.2)) = true := by decide +kernel
theorem c157_0 : pm_code 157 0 = some (.aload_n 0, 1) := pm_of cl157_0 0 (q := (0, .aload_n 0, 1)) rfl
theorem c157_1 : pm_code 157 1 = some (.getfield 18, 4) := pm_of cl157_0 1 (q := (1, .getfield 18, 4)) rfl
theorem c157_4 : pm_code 157 4 = some (.ireturn, 5) := pm_of cl157_0 2 (q := (4, .ireturn, 5)) rfl
theorem k158 : pm_k 158 = 11 := by decide +kernel
theorem ml158 : pm_ml 158 = 1 := by decide +kernel
theorem rt158 : pm_rt 158 = none := by decide +kernel
theorem hh158 : pm_hh 158 = [] := by decide +kernel
theorem rc158 : pm_cl 11 = (pm_y 158).cls := by decide +kernel
theorem cl158_0 : ([(0, .aload_n 0, 1), (1, .invokespecial 1, 4), (4, .aload_n 0, 5), (5, .new 7, 8), (8, .dup, 9), (9, .invokespecial 9, 12), (12, .putfield 10, 15), (15, .aload_n 0, 16), (16, .new 16, 19), (19, .dup, 20), (20, .invokespecial 18, 23), (23, .putfield 19, 26), (26, .aload_n 0, 27), (27, .new 23, 30), (30, .dup, 31), (31, .invokespecial 25, 34), (34, .putfield 26, 37), (37, .aload_n 0, 38), (38, .new 30, 41), (41, .dup, 42), (42, .invokespecial 32, 45), (45, .putfield 33, 48), (48, .aload_n 0, 49), (49, .new 37, 52), (52, .dup, 53), (53, .invokespecial 39, 56), (56, .putfield 40, 59), (59, .aload_n 0, 60), (60, .new 44, 63), (63, .dup, 64), (64, .invokespecial 46, 67), (67, .putfield 47, 70), (70, .aload_n 0, 71), (71, .new 51, 74), (74, .dup, 75), (75, .invokespecial 53, 78), (78, .putfield 54, 81), (81, .aload_n 0, 82), (82, .new 58, 85), (85, .dup, 86)] : List (Nat × Instr × Nat)).all (fun q => decide (pm_code 158 q.1 = some q.2)) = true := by decide +kernel
theorem c158_0 : pm_code 158 0 = some (.aload_n 0, 1) := pm_of cl158_0 0 (q := (0, .aload_n 0, 1)) rfl
theorem c158_1 : pm_code 158 1 = some (.invokespecial 1, 4) := pm_of cl158_0 1 (q := (1, .invokespecial 1, 4)) rfl
theorem c158_4 : pm_code 158 4 = some (.aload_n 0, 5) := pm_of cl158_0 2 (q := (4, .aload_n 0, 5)) rfl
theorem c158_5 : pm_code 158 5 = some (.new 7, 8) := pm_of cl158_0 3 (q := (5, .new 7, 8)) rfl
theorem c158_8 : pm_code 158 8 = some (.dup, 9) := pm_of cl158_0 4 (q := (8, .dup, 9)) rfl
theorem c158_9 : pm_code 158 9 = some (.invokespecial 9, 12) := pm_of cl158_0 5 (q := (9, .invokespecial 9, 12)) rfl
theorem c158_12 : pm_code 158 12 = some (.putfield 10, 15) := pm_of cl158_0 6 (q := (12, .putfield 10, 15)) rfl
theorem c158_15 : pm_code 158 15 = some (.aload_n 0, 16) := pm_of cl158_0 7 (q := (15, .aload_n 0, 16)) rfl
theorem c158_16 : pm_code 158 16 = some (.new 16, 19) := pm_of cl158_0 8 (q := (16, .new 16, 19)) rfl
theorem c158_19 : pm_code 158 19 = some (.dup, 20) := pm_of cl158_0 9 (q := (19, .dup, 20)) rfl
theorem c158_20 : pm_code 158 20 = some (.invokespecial 18, 23) := pm_of cl158_0 10 (q := (20, .invokespecial 18, 23)) rfl
theorem c158_23 : pm_code 158 23 = some (.putfield 19, 26) := pm_of cl158_0 11 (q := (23, .putfield 19, 26)) rfl
theorem c158_26 : pm_code 158 26 = some (.aload_n 0, 27) := pm_of cl158_0 12 (q := (26, .aload_n 0, 27)) rfl
theorem c158_27 : pm_code 158 27 = some (.new 23, 30) := pm_of cl158_0 13 (q := (27, .new 23, 30)) rfl
theorem c158_30 : pm_code 158 30 = some (.dup, 31) := pm_of cl158_0 14 (q := (30, .dup, 31)) rfl
theorem c158_31 : pm_code 158 31 = some (.invokespecial 25, 34) := pm_of cl158_0 15 (q := (31, .invokespecial 25, 34)) rfl
theorem c158_34 : pm_code 158 34 = some (.putfield 26, 37) := pm_of cl158_0 16 (q := (34, .putfield 26, 37)) rfl
theorem c158_37 : pm_code 158 37 = some (.aload_n 0, 38) := pm_of cl158_0 17 (q := (37, .aload_n 0, 38)) rfl
theorem c158_38 : pm_code 158 38 = some (.new 30, 41) := pm_of cl158_0 18 (q := (38, .new 30, 41)) rfl
theorem c158_41 : pm_code 158 41 = some (.dup, 42) := pm_of cl158_0 19 (q := (41, .dup, 42)) rfl
theorem c158_42 : pm_code 158 42 = some (.invokespecial 32, 45) := pm_of cl158_0 20 (q := (42, .invokespecial 32, 45)) rfl
theorem c158_45 : pm_code 158 45 = some (.putfield 33, 48) := pm_of cl158_0 21 (q := (45, .putfield 33, 48)) rfl
theorem c158_48 : pm_code 158 48 = some (.aload_n 0, 49) := pm_of cl158_0 22 (q := (48, .aload_n 0, 49)) rfl
theorem c158_49 : pm_code 158 49 = some (.new 37, 52) := pm_of cl158_0 23 (q := (49, .new 37, 52)) rfl
theorem c158_52 : pm_code 158 52 = some (.dup, 53) := pm_of cl158_0 24 (q := (52, .dup, 53)) rfl
theorem c158_53 : pm_code 158 53 = some (.invokespecial 39, 56) := pm_of cl158_0 25 (q := (53, .invokespecial 39, 56)) rfl
theorem c158_56 : pm_code 158 56 = some (.putfield 40, 59) := pm_of cl158_0 26 (q := (56, .putfield 40, 59)) rfl
theorem c158_59 : pm_code 158 59 = some (.aload_n 0, 60) := pm_of cl158_0 27 (q := (59, .aload_n 0, 60)) rfl
theorem c158_60 : pm_code 158 60 = some (.new 44, 63) := pm_of cl158_0 28 (q := (60, .new 44, 63)) rfl
theorem c158_63 : pm_code 158 63 = some (.dup, 64) := pm_of cl158_0 29 (q := (63, .dup, 64)) rfl
theorem c158_64 : pm_code 158 64 = some (.invokespecial 46, 67) := pm_of cl158_0 30 (q := (64, .invokespecial 46, 67)) rfl
theorem c158_67 : pm_code 158 67 = some (.putfield 47, 70) := pm_of cl158_0 31 (q := (67, .putfield 47, 70)) rfl
theorem c158_70 : pm_code 158 70 = some (.aload_n 0, 71) := pm_of cl158_0 32 (q := (70, .aload_n 0, 71)) rfl
theorem c158_71 : pm_code 158 71 = some (.new 51, 74) := pm_of cl158_0 33 (q := (71, .new 51, 74)) rfl
theorem c158_74 : pm_code 158 74 = some (.dup, 75) := pm_of cl158_0 34 (q := (74, .dup, 75)) rfl
theorem c158_75 : pm_code 158 75 = some (.invokespecial 53, 78) := pm_of cl158_0 35 (q := (75, .invokespecial 53, 78)) rfl
theorem c158_78 : pm_code 158 78 = some (.putfield 54, 81) := pm_of cl158_0 36 (q := (78, .putfield 54, 81)) rfl
theorem c158_81 : pm_code 158 81 = some (.aload_n 0, 82) := pm_of cl158_0 37 (q := (81, .aload_n 0, 82)) rfl
theorem c158_82 : pm_code 158 82 = some (.new 58, 85) := pm_of cl158_0 38 (q := (82, .new 58, 85)) rfl
theorem c158_85 : pm_code 158 85 = some (.dup, 86) := pm_of cl158_0 39 (q := (85, .dup, 86)) rfl
theorem cl158_1 : ([(86, .invokespecial 60, 89), (89, .putfield 61, 92), (92, .aload_n 0, 93), (93, .new 65, 96), (96, .dup, 97), (97, .invokespecial 67, 100), (100, .putfield 68, 103), (103, .aload_n 0, 104), (104, .new 72, 107), (107, .dup, 108), (108, .invokespecial 74, 111), (111, .putfield 75, 114), (114, .aload_n 0, 115), (115, .new 72, 118), (118, .dup, 119), (119, .invokespecial 74, 122), (122, .putfield 79, 125), (125, .aload_n 0, 126), (126, .iconst 0, 127), (127, .putfield 82, 130), (130, .aload_n 0, 131), (131, .iconst 0, 132), (132, .putfield 86, 135), (135, .aload_n 0, 136), (136, .iconst 0, 137), (137, .putfield 89, 140), (140, .return_, 141)] : List (Nat × Instr × Nat)).all (fun q => decide (pm_code 158 q.1 = some q.2)) = true := by decide +kernel
theorem c158_86 : pm_code 158 86 = some (.invokespecial 60, 89) := pm_of cl158_1 0 (q := (86, .invokespecial 60, 89)) rfl
theorem c158_89 : pm_code 158 89 = some (.putfield 61, 92) := pm_of cl158_1 1 (q := (89, .putfield 61, 92)) rfl
theorem c158_92 : pm_code 158 92 = some (.aload_n 0, 93) := pm_of cl158_1 2 (q := (92, .aload_n 0, 93)) rfl
theorem c158_93 : pm_code 158 93 = some (.new 65, 96) := pm_of cl158_1 3 (q := (93, .new 65, 96)) rfl
theorem c158_96 : pm_code 158 96 = some (.dup, 97) := pm_of cl158_1 4 (q := (96, .dup, 97)) rfl
theorem c158_97 : pm_code 158 97 = some (.invokespecial 67, 100) := pm_of cl158_1 5 (q := (97, .invokespecial 67, 100)) rfl
theorem c158_100 : pm_code 158 100 = some (.putfield 68, 103) := pm_of cl158_1 6 (q := (100, .putfield 68, 103)) rfl
theorem c158_103 : pm_code 158 103 = some (.aload_n 0, 104) := pm_of cl158_1 7 (q := (103, .aload_n 0, 104)) rfl
theorem c158_104 : pm_code 158 104 = some (.new 72, 107) := pm_of cl158_1 8 (q := (104, .new 72, 107)) rfl
theorem c158_107 : pm_code 158 107 = some (.dup, 108) := pm_of cl158_1 9 (q := (107, .dup, 108)) rfl
theorem c158_108 : pm_code 158 108 = some (.invokespecial 74, 111) := pm_of cl158_1 10 (q := (108, .invokespecial 74, 111)) rfl
theorem c158_111 : pm_code 158 111 = some (.putfield 75, 114) := pm_of cl158_1 11 (q := (111, .putfield 75, 114)) rfl
theorem c158_114 : pm_code 158 114 = some (.aload_n 0, 115) := pm_of cl158_1 12 (q := (114, .aload_n 0, 115)) rfl
theorem c158_115 : pm_code 158 115 = some (.new 72, 118) := pm_of cl158_1 13 (q := (115, .new 72, 118)) rfl
theorem c158_118 : pm_code 158 118 = some (.dup, 119) := pm_of cl158_1 14 (q := (118, .dup, 119)) rfl
theorem c158_119 : pm_code 158 119 = some (.invokespecial 74, 122) := pm_of cl158_1 15 (q := (119, .invokespecial 74, 122)) rfl
theorem c158_122 : pm_code 158 122 = some (.putfield 79, 125) := pm_of cl158_1 16 (q := (122, .putfield 79, 125)) rfl
theorem c158_125 : pm_code 158 125 = some (.aload_n 0, 126) := pm_of cl158_1 17 (q := (125, .aload_n 0, 126)) rfl
theorem c158_126 : pm_code 158 126 = some (.iconst 0, 127) := pm_of cl158_1 18 (q := (126, .iconst 0, 127)) rfl
theorem c158_127 : pm_code 158 127 = some (.putfield 82, 130) := pm_of cl158_1 19 (q := (127, .putfield 82, 130)) rfl
theorem c158_130 : pm_code 158 130 = some (.aload_n 0, 131) := pm_of cl158_1 20 (q := (130, .aload_n 0, 131)) rfl
theorem c158_131 : pm_code 158 131 = some (.iconst 0, 132) := pm_of cl158_1 21 (q := (131, .iconst 0, 132)) rfl
theorem c158_132 : pm_code 158 132 = some (.putfield 86, 135) := pm_of cl158_1 22 (q := (132, .putfield 86, 135)) rfl
theorem c158_135 : pm_code 158 135 = some (.aload_n 0, 136) := pm_of cl158_1 23 (q := (135, .aload_n 0, 136)) rfl
theorem c158_136 : pm_code 158 136 = some (.iconst 0, 137) := pm_of cl158_1 24 (q := (136, .iconst 0, 137)) rfl
theorem c158_137 : pm_code 158 137 = some (.putfield 89, 140) := pm_of cl158_1 25 (q := (137, .putfield 89, 140)) rfl
theorem c158_140 : pm_code 158 140 = some (.return_, 141) := pm_of cl158_1 26 (q := (140, .return_, 141)) rfl
theorem k159 : pm_k 159 = 11 := by decide +kernel
theorem ml159 : pm_ml 159 = 3 := by decide +kernel
theorem rt159 : pm_rt 159 = none := by decide +kernel
theorem hh159 : pm_hh 159 = [] := by decide +kernel
theorem rc159 : pm_cl 11 = (pm_y 159).cls := by decide +kernel
theorem cl159_0 : ([(0, .iload_n 1, 1), (1, .ifCond .lt 13, 4), (4, .iload_n 1, 5), (5, .aload_n 0, 6), (6, .arraylength, 7), (7, .if_icmp .ge 7, 10), (10, .aload_n 0, 11), (11, .iload_n 1, 12), (12, .iload_n 2, 13), (13, .iastore, 14), (14, .return_, 15)] : List (Nat × Instr × Nat)).all (fun q => decide (pm_code 159 q.1 = some q.2)) = true := by decide +kernel
theorem c159_0 : pm_code 159 0 = some (.iload_n 1, 1) := pm_of cl159_0 0 (q := (0, .iload_n 1, 1)) rfl
theorem c159_1 : pm_code 159 1 = some (.ifCond .lt 13, 4) := pm_of cl159_0 1 (q := (1, .ifCond .lt 13, 4)) rfl
theorem c159_4 : pm_code 159 4 = some (.iload_n 1, 5) := pm_of cl159_0 2 (q := (4, .iload_n 1, 5)) rfl
theorem c159_5 : pm_code 159 5 = some (.aload_n 0, 6) := pm_of cl159_0 3 (q := (5, .aload_n 0, 6)) rfl
theorem c159_6 : pm_code 159 6 = some (.arraylength, 7) := pm_of cl159_0 4 (q := (6, .arraylength, 7)) rfl
theorem c159_7 : pm_code 159 7 = some (.if_icmp .ge 7, 10) := pm_of cl159_0 5 (q := (7, .if_icmp .ge 7, 10)) rfl
theorem c159_10 : pm_code 159 10 = some (.aload_n 0, 11) := pm_of cl159_0 6 (q := (10, .aload_n 0, 11)) rfl
theorem c159_11 : pm_code 159 11 = some (.iload_n 1, 12) := pm_of cl159_0 7 (q := (11, .iload_n 1, 12)) rfl
theorem c159_12 : pm_code 159 12 = some (.iload_n 2, 13) := pm_of cl159_0 8 (q := (12, .iload_n 2, 13)) rfl
theorem c159_13 : pm_code 159 13 = some (.iastore, 14) := pm_of cl159_0 9 (q := (13, .iastore, 14)) rfl
theorem c159_14 : pm_code 159 14 = some (.return_, 15) := pm_of cl159_0 10 (q := (14, .return_, 15)) rfl
theorem k160 : pm_k 160 = 11 := by decide +kernel
theorem ml160 : pm_ml 160 = 2 := by decide +kernel
theorem rt160 : pm_rt 160 = (some .int) := by decide +kernel
theorem hh160 : pm_hh 160 = [] := by decide +kernel
theorem rc160 : pm_cl 11 = (pm_y 160).cls := by decide +kernel
theorem cl160_0 : ([(0, .iload_n 1, 1), (1, .ifCond .lt 15, 4), (4, .iload_n 1, 5), (5, .aload_n 0, 6), (6, .arraylength, 7), (7, .if_icmp .ge 9, 10), (10, .aload_n 0, 11), (11, .iload_n 1, 12), (12, .iaload, 13), (13, .goto 4, 16), (16, .iconst 0, 17), (17, .ireturn, 18)] : List (Nat × Instr × Nat)).all (fun q => decide (pm_code 160 q.1 = some q.2)) = true := by decide +kernel
theorem c160_0 : pm_code 160 0 = some (.iload_n 1, 1) := pm_of cl160_0 0 (q := (0, .iload_n 1, 1)) rfl
theorem c160_1 : pm_code 160 1 = some (.ifCond .lt 15, 4) := pm_of cl160_0 1 (q := (1, .ifCond .lt 15, 4)) rfl
theorem c160_4 : pm_code 160 4 = some (.iload_n 1, 5) := pm_of cl160_0 2 (q := (4, .iload_n 1, 5)) rfl
theorem c160_5 : pm_code 160 5 = some (.aload_n 0, 6) := pm_of cl160_0 3 (q := (5, .aload_n 0, 6)) rfl
theorem c160_6 : pm_code 160 6 = some (.arraylength, 7) := pm_of cl160_0 4 (q := (6, .arraylength, 7)) rfl
theorem c160_7 : pm_code 160 7 = some (.if_icmp .ge 9, 10) := pm_of cl160_0 5 (q := (7, .if_icmp .ge 9, 10)) rfl
theorem c160_10 : pm_code 160 10 = some (.aload_n 0, 11) := pm_of cl160_0 6 (q := (10, .aload_n 0, 11)) rfl
theorem c160_11 : pm_code 160 11 = some (.iload_n 1, 12) := pm_of cl160_0 7 (q := (11, .iload_n 1, 12)) rfl
theorem c160_12 : pm_code 160 12 = some (.iaload, 13) := pm_of cl160_0 8 (q := (12, .iaload, 13)) rfl
theorem c160_13 : pm_code 160 13 = some (.goto 4, 16) := pm_of cl160_0 9 (q := (13, .goto 4, 16)) rfl
theorem c160_16 : pm_code 160 16 = some (.iconst 0, 17) := pm_of cl160_0 10 (q := (16, .iconst 0, 17)) rfl
theorem c160_17 : pm_code 160 17 = some (.ireturn, 18) := pm_of cl160_0 11 (q := (17, .ireturn, 18)) rfl
theorem k161 : pm_k 161 = 11 := by decide +kernel
theorem ml161 : pm_ml 161 = 6 := by decide +kernel
theorem rt161 : pm_rt 161 = (some .int) := by decide +kernel
theorem hh161 : pm_hh 161 = [] := by decide +kernel
theorem rc161 : pm_cl 11 = (pm_y 161).cls := by decide +kernel
theorem cl161_0 : ([(0, .aload_n 0, 1), (1, .getfield 10, 4), (4, .invokevirtual 92, 7), (7, .bipush 20, 9), (9, .iadd, 10), (10, .sipush 600, 13), (13, .if_icmp .le 5, 16), (16, .iconst (-1), 17), (17, .ireturn, 18), (18, .aload_n 0, 19), (19, .getfield 10, 22), (22, .iload_n 1, 23), (23, .invokevirtual 96, 26), (26, .aload_n 0, 27), (27, .getfield 10, 30), (30, .iload_n 2, 31), (31, .invokevirtual 96, 34), (34, .aload_n 0, 35), (35, .getfield 10, 38), (38, .iload_n 3, 39), (39, .invokevirtual 96, 42), (42, .aload_n 0, 43), (43, .getfield 10, 46), (46, .iload 4, 48), (48, .invokevirtual 96, 51), (51, .aload_n 0, 52), (52, .getfield 10, 55), (55, .iload 5, 57), (57, .invokevirtual 96, 60), (60, .aload_n 0, 61), (61, .getfield 10, 64), (64, .invokevirtual 92, 67), (67, .ireturn, 68)] : List (Nat × Instr × Nat)).all (fun q => decide (pm_code 161 q.1 = some q.2)) = true := by decide +kernel
theorem c161_0 : pm_code 161 0 = some (.aload_n 0, 1) := pm_of cl161_0 0 (q := (0, .aload_n 0, 1)) rfl
theorem c161_1 : pm_code 161 1 = some (.getfield 10, 4) := pm_of cl161_0 1 (q := (1, .getfield 10, 4)) rfl
theorem c161_4 : pm_code 161 4 = some (.invokevirtual 92, 7) := pm_of cl161_0 2 (q := (4, .invokevirtual 92, 7)) rfl
theorem c161_7 : pm_code 161 7 = some (.bipush 20, 9) := pm_of cl161_0 3 (q := (7, .bipush 20, 9)) rfl
theorem c161_9 : pm_code 161 9 = some (.iadd, 10) := pm_of cl161_0 4 (q := (9, .iadd, 10)) rfl
theorem c161_10 : pm_code 161 10 = some (.sipush 600, 13) := pm_of cl161_0 5 (q := (10, .sipush 600, 13)) rfl
theorem c161_13 : pm_code 161 13 = some (.if_icmp .le 5, 16) := pm_of cl161_0 6 (q := (13, .if_icmp .le 5, 16)) rfl
theorem c161_16 : pm_code 161 16 = some (.iconst (-1), 17) := pm_of cl161_0 7 (q := (16, .iconst (-1), 17)) rfl
theorem c161_17 : pm_code 161 17 = some (.ireturn, 18) := pm_of cl161_0 8 (q := (17, .ireturn, 18)) rfl
theorem c161_18 : pm_code 161 18 = some (.aload_n 0, 19) := pm_of cl161_0 9 (q := (18, .aload_n 0, 19)) rfl
theorem c161_19 : pm_code 161 19 = some (.getfield 10, 22) := pm_of cl161_0 10 (q := (19, .getfield 10, 22)) rfl
theorem c161_22 : pm_code 161 22 = some (.iload_n 1, 23) := pm_of cl161_0 11 (q := (22, .iload_n 1, 23)) rfl
theorem c161_23 : pm_code 161 23 = some (.invokevirtual 96, 26) := pm_of cl161_0 12 (q := (23, .invokevirtual 96, 26)) rfl
theorem c161_26 : pm_code 161 26 = some (.aload_n 0, 27) := pm_of cl161_0 13 (q := (26, .aload_n 0, 27)) rfl
theorem c161_27 : pm_code 161 27 = some (.getfield 10, 30) := pm_of cl161_0 14 (q := (27, .getfield 10, 30)) rfl
theorem c161_30 : pm_code 161 30 = some (.iload_n 2, 31) := pm_of cl161_0 15 (q := (30, .iload_n 2, 31)) rfl
theorem c161_31 : pm_code 161 31 = some (.invokevirtual 96, 34) := pm_of cl161_0 16 (q := (31, .invokevirtual 96, 34)) rfl
theorem c161_34 : pm_code 161 34 = some (.aload_n 0, 35) := pm_of cl161_0 17 (q := (34, .aload_n 0, 35)) rfl
theorem c161_35 : pm_code 161 35 = some (.getfield 10, 38) := pm_of cl161_0 18 (q := (35, .getfield 10, 38)) rfl
theorem c161_38 : pm_code 161 38 = some (.iload_n 3, 39) := pm_of cl161_0 19 (q := (38, .iload_n 3, 39)) rfl
theorem c161_39 : pm_code 161 39 = some (.invokevirtual 96, 42) := pm_of cl161_0 20 (q := (39, .invokevirtual 96, 42)) rfl
theorem c161_42 : pm_code 161 42 = some (.aload_n 0, 43) := pm_of cl161_0 21 (q := (42, .aload_n 0, 43)) rfl
theorem c161_43 : pm_code 161 43 = some (.getfield 10, 46) := pm_of cl161_0 22 (q := (43, .getfield 10, 46)) rfl
theorem c161_46 : pm_code 161 46 = some (.iload 4, 48) := pm_of cl161_0 23 (q := (46, .iload 4, 48)) rfl
theorem c161_48 : pm_code 161 48 = some (.invokevirtual 96, 51) := pm_of cl161_0 24 (q := (48, .invokevirtual 96, 51)) rfl
theorem c161_51 : pm_code 161 51 = some (.aload_n 0, 52) := pm_of cl161_0 25 (q := (51, .aload_n 0, 52)) rfl
theorem c161_52 : pm_code 161 52 = some (.getfield 10, 55) := pm_of cl161_0 26 (q := (52, .getfield 10, 55)) rfl
theorem c161_55 : pm_code 161 55 = some (.iload 5, 57) := pm_of cl161_0 27 (q := (55, .iload 5, 57)) rfl
theorem c161_57 : pm_code 161 57 = some (.invokevirtual 96, 60) := pm_of cl161_0 28 (q := (57, .invokevirtual 96, 60)) rfl
theorem c161_60 : pm_code 161 60 = some (.aload_n 0, 61) := pm_of cl161_0 29 (q := (60, .aload_n 0, 61)) rfl
theorem c161_61 : pm_code 161 61 = some (.getfield 10, 64) := pm_of cl161_0 30 (q := (61, .getfield 10, 64)) rfl
theorem c161_64 : pm_code 161 64 = some (.invokevirtual 92, 67) := pm_of cl161_0 31 (q := (64, .invokevirtual 92, 67)) rfl
theorem c161_67 : pm_code 161 67 = some (.ireturn, 68) := pm_of cl161_0 32 (q := (67, .ireturn, 68)) rfl
theorem k162 : pm_k 162 = 11 := by decide +kernel
theorem ml162 : pm_ml 162 = 1 := by decide +kernel
theorem rt162 : pm_rt 162 = (some .int) := by decide +kernel
theorem hh162 : pm_hh 162 = [] := by decide +kernel
theorem rc162 : pm_cl 11 = (pm_y 162).cls := by decide +kernel
theorem cl162_0 : ([(0, .aload_n 0, 1), (1, .getfield 10, 4), (4, .invokevirtual 181, 7), (7, .ireturn, 8)] : List (Nat × Instr × Nat)).all (fun q => decide (pm_code 162 q.1 = some q.2)) = true := by decide +kernel
theorem c162_0 : pm_code 162 0 = some (.aload_n 0, 1) := pm_of cl162_0 0 (q := (0, .aload_n 0, 1)) rfl
theorem c162_1 : pm_code 162 1 = some (.getfield 10, 4) := pm_of cl162_0 1 (q := (1, .getfield 10, 4)) rfl
theorem c162_4 : pm_code 162 4 = some (.invokevirtual 181, 7) := pm_of cl162_0 2 (q := (4, .invokevirtual 181, 7)) rfl
theorem c162_7 : pm_code 162 7 = some (.ireturn, 8) := pm_of cl162_0 3 (q := (7, .ireturn, 8)) rfl
theorem k163 : pm_k 163 = 11 := by decide +kernel
theorem ml163 : pm_ml 163 = 1 := by decide +kernel
theorem rt163 : pm_rt 163 = (some .int) := by decide +kernel
theorem hh163 : pm_hh 163 = [] := by decide +kernel
theorem rc163 : pm_cl 11 = (pm_y 163).cls := by decide +kernel
theorem cl163_0 : ([(0, .aload_n 0, 1), (1, .getfield 26, 4), (4, .invokevirtual 147, 7), (7, .ifCond .gt 5, 10), (10, .iconst (-1), 11), (11, .ireturn, 12), (12, .aload_n 0, 13), (13, .getfield 26, 16), (16, .aload_n 0, 17), (17, .getfield 19, 20), (20, .invokevirtual 156, 23), (23, .invokevirtual 184, 26), (26, .aload_n 0, 27), (27, .iconst 0, 28), (28, .putfield 82, 31), (31, .aload_n 0, 32), (32, .getfield 26, 35), (35, .invokevirtual 147, 38), (38, .ireturn, 39)] : List (Nat × Instr × Nat)).all (fun q => decide (pm_code 163 q.1 = some q.2)) = true := by decide +kernel
theorem c163_0 : pm_code 163 0 = some (.aload_n 0, 1) := pm_of cl163_0 0 (q := (0, .aload_n 0, 1)) rfl
theorem c163_1 : pm_code 163 1 = some (.getfield 26, 4) := pm_of cl163_0 1 (q := (1, .getfield 26, 4)) rfl
theorem c163_4 : pm_code 163 4 = some (.invokevirtual 147, 7) := pm_of cl163_0 2 (q := (4, .invokevirtual 147, 7)) rfl
theorem c163_7 : pm_code 163 7 = some (.ifCond .gt 5, 10) := pm_of cl163_0 3 (q := (7, .ifCond .gt 5, 10)) rfl
theorem c163_10 : pm_code 163 10 = some (.iconst (-1), 11) := pm_of cl163_0 4 (q := (10, .iconst (-1), 11)) rfl
theorem c163_11 : pm_code 163 11 = some (.ireturn, 12) := pm_of cl163_0 5 (q := (11, .ireturn, 12)) rfl
theorem c163_12 : pm_code 163 12 = some (.aload_n 0, 13) := pm_of cl163_0 6 (q := (12, .aload_n 0, 13)) rfl
theorem c163_13 : pm_code 163 13 = some (.getfield 26, 16) := pm_of cl163_0 7 (q := (13, .getfield 26, 16)) rfl
theorem c163_16 : pm_code 163 16 = some (.aload_n 0, 17) := pm_of cl163_0 8 (q := (16, .aload_n 0, 17)) rfl
theorem c163_17 : pm_code 163 17 = some (.getfield 19, 20) := pm_of cl163_0 9 (q := (17, .getfield 19, 20)) rfl
theorem c163_20 : pm_code 163 20 = some (.invokevirtual 156, 23) := pm_of cl163_0 10 (q := (20, .invokevirtual 156, 23)) rfl
theorem c163_23 : pm_code 163 23 = some (.invokevirtual 184, 26) := pm_of cl163_0 11 (q := (23, .invokevirtual 184, 26)) rfl
theorem c163_26 : pm_code 163 26 = some (.aload_n 0, 27) := pm_of cl163_0 12 (q := (26, .aload_n 0, 27)) rfl
theorem c163_27 : pm_code 163 27 = some (.iconst 0, 28) := pm_of cl163_0 13 (q := (27, .iconst 0, 28)) rfl
theorem c163_28 : pm_code 163 28 = some (.putfield 82, 31) := pm_of cl163_0 14 (q := (28, .putfield 82, 31)) rfl
theorem c163_31 : pm_code 163 31 = some (.aload_n 0, 32) := pm_of cl163_0 15 (q := (31, .aload_n 0, 32)) rfl
theorem c163_32 : pm_code 163 32 = some (.getfield 26, 35) := pm_of cl163_0 16 (q := (32, .getfield 26, 35)) rfl
theorem c163_35 : pm_code 163 35 = some (.invokevirtual 147, 38) := pm_of cl163_0 17 (q := (35, .invokevirtual 147, 38)) rfl
theorem c163_38 : pm_code 163 38 = some (.ireturn, 39) := pm_of cl163_0 18 (q := (38, .ireturn, 39)) rfl
theorem k164 : pm_k 164 = 11 := by decide +kernel
theorem ml164 : pm_ml 164 = 2 := by decide +kernel
theorem rt164 : pm_rt 164 = none := by decide +kernel
theorem hh164 : pm_hh 164 = [] := by decide +kernel
theorem rc164 : pm_cl 11 = (pm_y 164).cls := by decide +kernel
theorem cl164_0 : ([(0, .aload_n 0, 1), (1, .iconst 0, 2), (2, .aload_n 1, 3), (3, .iconst 0, 4), (4, .aload_n 0, 5), (5, .arraylength, 6), (6, .aload_n 1, 7), (7, .arraylength, 8), (8, .invokestatic 293, 11), (11, .invokestatic 390, 14), (14, .return_, 15)] : List (Nat × Instr × Nat)).all (fun q => decide (pm_code 164 q.1 = some q.2)) = true := by decide +kernel
theorem c164_0 : pm_code 164 0 = some (.aload_n 0, 1) := pm_of cl164_0 0 (q := (0, .aload_n 0, 1)) rfl
theorem c164_1 : pm_code 164 1 = some (.iconst 0, 2) := pm_of cl164_0 1 (q := (1, .iconst 0, 2)) rfl
theorem c164_2 : pm_code 164 2 = some (.aload_n 1, 3) := pm_of cl164_0 2 (q := (2, .aload_n 1, 3)) rfl
theorem c164_3 : pm_code 164 3 = some (.iconst 0, 4) := pm_of cl164_0 3 (q := (3, .iconst 0, 4)) rfl
theorem c164_4 : pm_code 164 4 = some (.aload_n 0, 5) := pm_of cl164_0 4 (q := (4, .aload_n 0, 5)) rfl
theorem c164_5 : pm_code 164 5 = some (.arraylength, 6) := pm_of cl164_0 5 (q := (5, .arraylength, 6)) rfl
theorem c164_6 : pm_code 164 6 = some (.aload_n 1, 7) := pm_of cl164_0 6 (q := (6, .aload_n 1, 7)) rfl
theorem c164_7 : pm_code 164 7 = some (.arraylength, 8) := pm_of cl164_0 7 (q := (7, .arraylength, 8)) rfl
theorem c164_8 : pm_code 164 8 = some (.invokestatic 293, 11) := pm_of cl164_0 8 (q := (8, .invokestatic 293, 11)) rfl
theorem c164_11 : pm_code 164 11 = some (.invokestatic 390, 14) := pm_of cl164_0 9 (q := (11, .invokestatic 390, 14)) rfl
theorem c164_14 : pm_code 164 14 = some (.return_, 15) := pm_of cl164_0 10 (q := (14, .return_, 15)) rfl
theorem k165 : pm_k 165 = 11 := by decide +kernel
theorem ml165 : pm_ml 165 = 1 := by decide +kernel
theorem rt165 : pm_rt 165 = (some .int) := by decide +kernel
theorem hh165 : pm_hh 165 = [] := by decide +kernel
theorem rc165 : pm_cl 11 = (pm_y 165).cls := by decide +kernel
theorem cl165_0 : ([(0, .aload_n 0, 1), (1, .getfield 19, 4), (4, .invokevirtual 246, 7), (7, .ireturn, 8)] : List (Nat × Instr × Nat)).all (fun q => decide (pm_code 165 q.1 = some q.2)) = true := by decide +kernel
theorem c165_0 : pm_code 165 0 = some (.aload_n 0, 1) := pm_of cl165_0 0 (q := (0, .aload_n 0, 1)) rfl
theorem c165_1 : pm_code 165 1 = some (.getfield 19, 4) := pm_of cl165_0 1 (q := (1, .getfield 19, 4)) rfl
theorem c165_4 : pm_code 165 4 = some (.invokevirtual 246, 7) := pm_of cl165_0 2 (q := (4, .invokevirtual 246, 7)) rfl
theorem c165_7 : pm_code 165 7 = some (.ireturn, 8) := pm_of cl165_0 3 (q := (7, .ireturn, 8)) rfl
theorem k166 : pm_k 166 = 11 := by decide +kernel
theorem ml166 : pm_ml 166 = 1 := by decide +kernel
theorem rt166 : pm_rt 166 = (some .int) := by decide +kernel
theorem hh166 : pm_hh 166 = [] := by decide +kernel
theorem rc166 : pm_cl 11 = (pm_y 166).cls := by decide +kernel
theorem cl166_0 : ([(0, .aload_n 0, 1), (1, .getfield 19, 4), (4, .invokevirtual 280, 7), (7, .ireturn, 8)] : List (Nat × Instr × Nat)).all (fun q => decide (pm_code 166 q.1 = some q.2)) = true := by decide +kernel
theorem c166_0 : pm_code 166 0 = some (.aload_n 0, 1) := pm_of cl166_0 0 (q := (0, .aload_n 0, 1)) rfl
theorem c166_1 : pm_code 166 1 = some (.getfield 19, 4) := pm_of cl166_0 1 (q := (1, .getfield 19, 4)) rfl
theorem c166_4 : pm_code 166 4 = some (.invokevirtual 280, 7) := pm_of cl166_0 2 (q := (4, .invokevirtual 280, 7)) rfl
theorem c166_7 : pm_code 166 7 = some (.ireturn, 8) := pm_of cl166_0 3 (q := (7, .ireturn, 8)) rfl
theorem k167 : pm_k 167 = 11 := by decide +kernel
theorem ml167 : pm_ml 167 = 3 := by decide +kernel
theorem rt167 : pm_rt 167 = (some .int) := by decide +kernel
theorem hh167 : pm_hh 167 = [] := by decide +kernel
theorem rc167 : pm_cl 11 = (pm_y 167).cls := by decide +kernel
theorem cl167_0 : ([(0, .aload_n 0, 1), (1, .getfield 19, 4), (4, .iconst 0, 5), (5, .invokevirtual 198, 8), (8, .istore_n 1, 9), (9, .iload_n 1, 10), (10, .ifCond .gt 5, 13), (13, .iconst (-1), 14), (14, .ireturn, 15), (15, .aload_n 0, 16), (16, .getfield 19, 19), (19, .invokevirtual 156, 22), (22, .invokevirtual 195, 25), (25, .iload_n 1, 26), (26, .idiv, 27), (27, .istore_n 2, 28), (28, .iload_n 2, 29), (29, .bipush 99, 31), (31, .if_icmp .gt 7, 34), (34, .iload_n 2, 35), (35, .goto 4, 38), (38, .iconst (-1), 39), (39, .ireturn, 40)] : List (Nat × Instr × Nat)).all (fun q => decide (pm_code 167 q.1 = some q.2)) = true := by decide +kernel
theorem c167_0 : pm_code 167 0 = some (.aload_n 0, 1) := pm_of cl167_0 0 (q := (0, .aload_n 0, 1)) rfl
theorem c167_1 : pm_code 167 1 = some (.getfield 19, 4) := pm_of cl167_0 1 (q := (1, .getfield 19, 4)) rfl
theorem c167_4 : pm_code 167 4 = some (.iconst 0, 5) := pm_of cl167_0 2 (q := (4, .iconst 0, 5)) rfl
theorem c167_5 : pm_code 167 5 = some (.invokevirtual 198, 8) := pm_of cl167_0 3 (q := (5, .invokevirtual 198, 8)) rfl
theorem c167_8 : pm_code 167 8 = some (.istore_n 1, 9) := pm_of cl167_0 4 (q := (8, .istore_n 1, 9)) rfl
theorem c167_9 : pm_code 167 9 = some (.iload_n 1, 10) := pm_of cl167_0 5 (q := (9, .iload_n 1, 10)) rfl
theorem c167_10 : pm_code 167 10 = some (.ifCond .gt 5, 13) := pm_of cl167_0 6 (q := (10, .ifCond .gt 5, 13)) rfl
theorem c167_13 : pm_code 167 13 = some (.iconst (-1), 14) := pm_of cl167_0 7 (q := (13, .iconst (-1), 14)) rfl
theorem c167_14 : pm_code 167 14 = some (.ireturn, 15) := pm_of cl167_0 8 (q := (14, .ireturn, 15)) rfl
theorem c167_15 : pm_code 167 15 = some (.aload_n 0, 16) := pm_of cl167_0 9 (q := (15, .aload_n 0, 16)) rfl
theorem c167_16 : pm_code 167 16 = some (.getfield 19, 19) := pm_of cl167_0 10 (q := (16, .getfield 19, 19)) rfl
theorem c167_19 : pm_code 167 19 = some (.invokevirtual 156, 22) := pm_of cl167_0 11 (q := (19, .invokevirtual 156, 22)) rfl
theorem c167_22 : pm_code 167 22 = some (.invokevirtual 195, 25) := pm_of cl167_0 12 (q := (22, .invokevirtual 195, 25)) rfl
theorem c167_25 : pm_code 167 25 = some (.iload_n 1, 26) := pm_of cl167_0 13 (q := (25, .iload_n 1, 26)) rfl
theorem c167_26 : pm_code 167 26 = some (.idiv, 27) := pm_of cl167_0 14 (q := (26, .idiv, 27)) rfl
theorem c167_27 : pm_code 167 27 = some (.istore_n 2, 28) := pm_of cl167_0 15 (q := (27, .istore_n 2, 28)) rfl
theorem c167_28 : pm_code 167 28 = some (.iload_n 2, 29) := pm_of cl167_0 16 (q := (28, .iload_n 2, 29)) rfl
theorem c167_29 : pm_code 167 29 = some (.bipush 99, 31) := pm_of cl167_0 17 (q := (29, .bipush 99, 31)) rfl
theorem c167_31 : pm_code 167 31 = some (.if_icmp .gt 7, 34) := pm_of cl167_0 18 (q := (31, .if_icmp .gt 7, 34)) rfl
theorem c167_34 : pm_code 167 34 = some (.iload_n 2, 35) := pm_of cl167_0 19 (q := (34, .iload_n 2, 35)) rfl
theorem c167_35 : pm_code 167 35 = some (.goto 4, 38) := pm_of cl167_0 20 (q := (35, .goto 4, 38)) rfl
theorem c167_38 : pm_code 167 38 = some (.iconst (-1), 39) := pm_of cl167_0 21 (q := (38, .iconst (-1), 39)) rfl
theorem c167_39 : pm_code 167 39 = some (.ireturn, 40) := pm_of cl167_0 22 (q := (39, .ireturn, 40)) rfl
theorem k168 : pm_k 168 = 11 := by decide +kernel
theorem ml168 : pm_ml 168 = 1 := by decide +kernel
theorem rt168 : pm_rt 168 = (some .int) := by decide +kernel
theorem hh168 : pm_hh 168 = [] := by decide +kernel
theorem rc168 : pm_cl 11 = (pm_y 168).cls := by decide +kernel
theorem cl168_0 : ([(0, .aload_n 0, 1), (1, .getfield 26, 4), (4, .invokevirtual 355, 7), (7, .iconst 3, 8), (8, .if_icmp .lt 5, 11), (11, .iconst (-1), 12), (12, .ireturn, 13), (13, .aload_n 0, 14), (14, .getfield 26, 17), (17, .aload_n 0, 18), (18, .getfield 19, 21), (21, .invokevirtual 156, 24), (24, .invokevirtual 358, 27), (27, .aload_n 0, 28), (28, .getfield 26, 31), (31, .invokevirtual 355, 34), (34, .ireturn, 35)] : List (Nat × Instr × Nat)).all (fun q => decide (pm_code 168 q.1 = some q.2)) = true := by decide +kernel
theorem c168_0 : pm_code 168 0 = some (.aload_n 0, 1) := pm_of cl168_0 0 (q := (0, .aload_n 0, 1)) rfl
theorem c168_1 : pm_code 168 1 = some (.getfield 26, 4) := pm_of cl168_0 1 (q := (1, .getfield 26, 4)) rfl
theorem c168_4 : pm_code 168 4 = some (.invokevirtual 355, 7) := pm_of cl168_0 2 (q := (4, .invokevirtual 355, 7)) rfl
theorem c168_7 : pm_code 168 7 = some (.iconst 3, 8) := pm_of cl168_0 3 (q := (7, .iconst 3, 8)) rfl
theorem c168_8 : pm_code 168 8 = some (.if_icmp .lt 5, 11) := pm_of cl168_0 4 (q := (8, .if_icmp .lt 5, 11)) rfl
theorem c168_11 : pm_code 168 11 = some (.iconst (-1), 12) := pm_of cl168_0 5 (q := (11, .iconst (-1), 12)) rfl
theorem c168_12 : pm_code 168 12 = some (.ireturn, 13) := pm_of cl168_0 6 (q := (12, .ireturn, 13)) rfl
theorem c168_13 : pm_code 168 13 = some (.aload_n 0, 14) := pm_of cl168_0 7 (q := (13, .aload_n 0, 14)) rfl
theorem c168_14 : pm_code 168 14 = some (.getfield 26, 17) := pm_of cl168_0 8 (q := (14, .getfield 26, 17)) rfl
theorem c168_17 : pm_code 168 17 = some (.aload_n 0, 18) := pm_of cl168_0 9 (q := (17, .aload_n 0, 18)) rfl
theorem c168_18 : pm_code 168 18 = some (.getfield 19, 21) := pm_of cl168_0 10 (q := (18, .getfield 19, 21)) rfl
theorem c168_21 : pm_code 168 21 = some (.invokevirtual 156, 24) := pm_of cl168_0 11 (q := (21, .invokevirtual 156, 24)) rfl
theorem c168_24 : pm_code 168 24 = some (.invokevirtual 358, 27) := pm_of cl168_0 12 (q := (24, .invokevirtual 358, 27)) rfl
theorem c168_27 : pm_code 168 27 = some (.aload_n 0, 28) := pm_of cl168_0 13 (q := (27, .aload_n 0, 28)) rfl
theorem c168_28 : pm_code 168 28 = some (.getfield 26, 31) := pm_of cl168_0 14 (q := (28, .getfield 26, 31)) rfl
theorem c168_31 : pm_code 168 31 = some (.invokevirtual 355, 34) := pm_of cl168_0 15 (q := (31, .invokevirtual 355, 34)) rfl
theorem c168_34 : pm_code 168 34 = some (.ireturn, 35) := pm_of cl168_0 16 (q := (34, .ireturn, 35)) rfl
theorem k169 : pm_k 169 = 11 := by decide +kernel
theorem ml169 : pm_ml 169 = 1 := by decide +kernel
theorem rt169 : pm_rt 169 = (some .int) := by decide +kernel
theorem hh169 : pm_hh 169 = [] := by decide +kernel
theorem rc169 : pm_cl 11 = (pm_y 169).cls := by decide +kernel
theorem cl169_0 : ([(0, .aload_n 0, 1), (1, .getfield 26, 4), (4, .invokevirtual 355, 7), (7, .ifCond .gt 5, 10), (10, .iconst (-1), 11), (11, .ireturn, 12), (12, .aload_n 0, 13), (13, .getfield 26, 16), (16, .aload_n 0, 17), (17, .getfield 19, 20), (20, .invokevirtual 156, 23), (23, .invokevirtual 361, 26), (26, .aload_n 0, 27), (27, .iconst 0, 28), (28, .putfield 82, 31), (31, .aload_n 0, 32), (32, .getfield 26, 35), (35, .invokevirtual 355, 38), (38, .ireturn, 39)] : List (Nat × Instr × Nat)).all (fun q => decide (pm_code 169 q.1 = some q.2)) = true := by decide +kernel
theorem c169_0 : pm_code 169 0 = some (.aload_n 0, 1) := pm_of cl169_0 0 (q := (0, .aload_n 0, 1)) rfl
theorem c169_1 : pm_code 169 1 = some (.getfield 26, 4) := pm_of cl169_0 1 (q := (1, .getfield 26, 4)) rfl
theorem c169_4 : pm_code 169 4 = some (.invokevirtual 355, 7) := pm_of cl169_0 2 (q := (4, .invokevirtual 355, 7)) rfl
theorem c169_7 : pm_code 169 7 = some (.ifCond .gt 5, 10) := pm_of cl169_0 3 (q := (7, .ifCond .gt 5, 10)) rfl
theorem c169_10 : pm_code 169 10 = some (.iconst (-1), 11) := pm_of cl169_0 4 (q := (10, .iconst (-1), 11)) rfl
theorem c169_11 : pm_code 169 11 = some (.ireturn, 12) := pm_of cl169_0 5 (q := (11, .ireturn, 12)) rfl
theorem c169_12 : pm_code 169 12 = some (.aload_n 0, 13) := pm_of cl169_0 6 (q := (12, .aload_n 0, 13)) rfl
theorem c169_13 : pm_code 169 13 = some (.getfield 26, 16) := pm_of cl169_0 7 (q := (13, .getfield 26, 16)) rfl
theorem c169_16 : pm_code 169 16 = some (.aload_n 0, 17) := pm_of cl169_0 8 (q := (16, .aload_n 0, 17)) rfl
theorem c169_17 : pm_code 169 17 = some (.getfield 19, 20) := pm_of cl169_0 9 (q := (17, .getfield 19, 20)) rfl
theorem c169_20 : pm_code 169 20 = some (.invokevirtual 156, 23) := pm_of cl169_0 10 (q := (20, .invokevirtual 156, 23)) rfl
theorem c169_23 : pm_code 169 23 = some (.invokevirtual 361, 26) := pm_of cl169_0 11 (q := (23, .invokevirtual 361, 26)) rfl
theorem c169_26 : pm_code 169 26 = some (.aload_n 0, 27) := pm_of cl169_0 12 (q := (26, .aload_n 0, 27)) rfl
theorem c169_27 : pm_code 169 27 = some (.iconst 0, 28) := pm_of cl169_0 13 (q := (27, .iconst 0, 28)) rfl
theorem c169_28 : pm_code 169 28 = some (.putfield 82, 31) := pm_of cl169_0 14 (q := (28, .putfield 82, 31)) rfl
theorem c169_31 : pm_code 169 31 = some (.aload_n 0, 32) := pm_of cl169_0 15 (q := (31, .aload_n 0, 32)) rfl
theorem c169_32 : pm_code 169 32 = some (.getfield 26, 35) := pm_of cl169_0 16 (q := (32, .getfield 26, 35)) rfl
theorem c169_35 : pm_code 169 35 = some (.invokevirtual 355, 38) := pm_of cl169_0 17 (q := (35, .invokevirtual 355, 38)) rfl
theorem c169_38 : pm_code 169 38 = some (.ireturn, 39) := pm_of cl169_0 18 (q := (38, .ireturn, 39)) rfl
theorem k170 : pm_k 170 = 11 := by decide +kernel
theorem ml170 : pm_ml 170 = 2 := by decide +kernel
theorem rt170 : pm_rt 170 = (some .int) := by decide +kernel
theorem hh170 : pm_hh 170 = [] := by decide +kernel
theorem rc170 : pm_cl 11 = (pm_y 170).cls := by decide +kernel
theorem cl170_0 : ([(0, .iload_n 1, 1), (1, .lookupswitch 37 #[(0, 27), (1, 32)], 28), (28, .aload_n 0, 29), (29, .getfield 86, 32), (32, .ireturn, 33), (33, .aload_n 0, 34), (34, .getfield 89, 37), (37, .ireturn, 38), (38, .iconst (-1), 39), (39, .ireturn, 40)] : List (Nat × Instr × Nat)).all (fun q => decide (pm_code 170 q.1 = some q.2)) = true := by decide +kernel
theorem c170_0 : pm_code 170 0 = some (.iload_n 1, 1) := pm_of cl170_0 0 (q := (0, .iload_n 1, 1)) rfl
theorem c170_1 : pm_code 170 1 = some (.lookupswitch 37 #[(0, 27), (1, 32)], 28) := pm_of cl170_0 1 (q := (1, .lookupswitch 37 #[(0, 27), (1, 32)], 28)) rfl
theorem c170_28 : pm_code 170 28 = some (.aload_n 0, 29) := pm_of cl170_0 2 (q := (28, .aload_n 0, 29)) rfl
theorem c170_29 : pm_code 170 29 = some (.getfield 86, 32) := pm_of cl170_0 3 (q := (29, .getfield 86, 32)) rfl
theorem c170_32 : pm_code 170 32 = some (.ireturn, 33) := pm_of cl170_0 4 (q := (32, .ireturn, 33)) rfl
theorem c170_33 : pm_code 170 33 = some (.aload_n 0, 34) := pm_of cl170_0 5 (q := (33, .aload_n 0, 34)) rfl
theorem c170_34 : pm_code 170 34 = some (.getfield 89, 37) := pm_of cl170_0 6 (q := (34, .getfield 89, 37)) rfl
theorem c170_37 : pm_code 170 37 = some (.ireturn, 38) := pm_of cl170_0 7 (q := (37, .ireturn, 38)) rfl
theorem c170_38 : pm_code 170 38 = some (.iconst (-1), 39) := pm_of cl170_0 8 (q := (38, .iconst (-1), 39)) rfl
theorem c170_39 : pm_code 170 39 = some (.ireturn, 40) := pm_of cl170_0 9 (q := (39, .ireturn, 40)) rfl
theorem k171 : pm_k 171 = 11 := by decide +kernel
theorem ml171 : pm_ml 171 = 2 := by decide +kernel
theorem rt171 : pm_rt 171 = (some .int) := by decide +kernel
theorem hh171 : pm_hh 171 = [] := by decide +kernel
theorem rc171 : pm_cl 11 = (pm_y 171).cls := by decide +kernel
theorem cl171_0 : ([(0, .iload_n 1, 1), (1, .tableswitch 51 0 2 #[27, 35, 43], 28), (28, .aload_n 0, 29), (29, .getfield 26, 32), (32, .invokevirtual 355, 35), (35, .ireturn, 36), (36, .aload_n 0, 37), (37, .getfield 10, 40), (40, .invokevirtual 92, 43), (43, .ireturn, 44), (44, .aload_n 0, 45), (45, .getfield 26, 48), (48, .invokevirtual 147, 51), (51, .ireturn, 52), (52, .iconst (-1), 53), (53, .ireturn, 54)] : List (Nat × Instr × Nat)).all (fun q => decide (pm_code 171 q.1 = some q.2)) = true := by decide +kernel
theorem c171_0 : pm_code 171 0 = some (.iload_n 1, 1) := pm_of cl171_0 0 (q := (0, .iload_n 1, 1)) rfl
theorem c171_1 : pm_code 171 1 = some (.tableswitch 51 0 2 #[27, 35, 43], 28) := pm_of cl171_0 1 (q := (1, .tableswitch 51 0 2 #[27, 35, 43], 28)) rfl
theorem c171_28 : pm_code 171 28 = some (.aload_n 0, 29) := pm_of cl171_0 2 (q := (28, .aload_n 0, 29)) rfl
theorem c171_29 : pm_code 171 29 = some (.getfield 26, 32) := pm_of cl171_0 3 (q := (29, .getfield 26, 32)) rfl
theorem c171_32 : pm_code 171 32 = some (.invokevirtual 355, 35) := pm_of cl171_0 4 (q := (32, .invokevirtual 355, 35)) rfl
theorem c171_35 : pm_code 171 35 = some (.ireturn, 36) := pm_of cl171_0 5 (q := (35, .ireturn, 36)) rfl
theorem c171_36 : pm_code 171 36 = some (.aload_n 0, 37) := pm_of cl171_0 6 (q := (36, .aload_n 0, 37)) rfl
theorem c171_37 : pm_code 171 37 = some (.getfield 10, 40) := pm_of cl171_0 7 (q := (37, .getfield 10, 40)) rfl
theorem c171_40 : pm_code 171 40 = some (.invokevirtual 92, 43) := pm_of cl171_0 8 (q := (40, .invokevirtual 92, 43)) rfl
theorem c171_43 : pm_code 171 43 = some (.ireturn, 44) := pm_of cl171_0 9 (q := (43, .ireturn, 44)) rfl
theorem c171_44 : pm_code 171 44 = some (.aload_n 0, 45) := pm_of cl171_0 10 (q := (44, .aload_n 0, 45)) rfl
theorem c171_45 : pm_code 171 45 = some (.getfield 26, 48) := pm_of cl171_0 11 (q := (45, .getfield 26, 48)) rfl
theorem c171_48 : pm_code 171 48 = some (.invokevirtual 147, 51) := pm_of cl171_0 12 (q := (48, .invokevirtual 147, 51)) rfl
theorem c171_51 : pm_code 171 51 = some (.ireturn, 52) := pm_of cl171_0 13 (q := (51, .ireturn, 52)) rfl
theorem c171_52 : pm_code 171 52 = some (.iconst (-1), 53) := pm_of cl171_0 14 (q := (52, .iconst (-1), 53)) rfl
theorem c171_53 : pm_code 171 53 = some (.ireturn, 54) := pm_of cl171_0 15 (q := (53, .ireturn, 54)) rfl
theorem k172 : pm_k 172 = 11 := by decide +kernel
theorem ml172 : pm_ml 172 = 3 := by decide +kernel
theorem rt172 : pm_rt 172 = (some .int) := by decide +kernel
theorem hh172 : pm_hh 172 = [] := by decide +kernel
theorem rc172 : pm_cl 11 = (pm_y 172).cls := by decide +kernel
theorem cl172_0 : ([(0, .aload_n 0, 1), (1, .iload_n 1, 2), (2, .sipush 600, 5), (5, .invokevirtual 100, 8), (8, .aload_n 0, 9), (9, .getfield 10, 12), (12, .iload_n 1, 13), (13, .invokevirtual 104, 16), (16, .aload_n 0, 17), (17, .getfield 68, 20), (20, .aload_n 0, 21), (21, .getfield 10, 24), (24, .invokevirtual 107, 27), (27, .aload_n 0, 28), (28, .getfield 10, 31), (31, .invokevirtual 111, 34), (34, .aload_n 0, 35), (35, .getfield 10, 38), (38, .invokevirtual 114, 41), (41, .ifCond .eq 11, 44), (44, .aload_n 0, 45), (45, .getfield 10, 48), (48, .invokevirtual 118, 51), (51, .ireturn, 52), (52, .aload_n 0, 53), (53, .getfield 19, 56), (56, .invokevirtual 121, 59), (59, .astore_n 2, 60), (60, .aload_n 0, 61), (61, .getfield 19, 64), (64, .aload_n 0, 65), (65, .getfield 68, 68), (68, .invokevirtual 125, 71), (71, .aload_n 0, 72), (72, .aload_n 2, 73), (73, .putfield 68, 76), (76, .aload_n 0, 77), (77, .getfield 75, 80), (80, .invokevirtual 129, 83), (83, .aload_n 0, 84)] : List (Nat × Instr × Nat)).all (fun q => decide (pm_code 172 q.1 = some q.2)) = true := by decide +kernel
theorem c172_0 : pm_code 172 0 = some (.aload_n 0, 1) := pm_of cl172_0 0 (q := (0, .aload_n 0, 1)) rfl
theorem c172_1 : pm_code 172 1 = some (.iload_n 1, 2) := pm_of cl172_0 1 (q := (1, .iload_n 1, 2)) rfl
theorem c172_2 : pm_code 172 2 = some (.sipush 600, 5) := pm_of cl172_0 2 (q := (2, .sipush 600, 5)) rfl
theorem c172_5 : pm_code 172 5 = some (.invokevirtual 100, 8) := pm_of cl172_0 3 (q := (5, .invokevirtual 100, 8)) rfl
theorem c172_8 : pm_code 172 8 = some (.aload_n 0, 9) := pm_of cl172_0 4 (q := (8, .aload_n 0, 9)) rfl
theorem c172_9 : pm_code 172 9 = some (.getfield 10, 12) := pm_of cl172_0 5 (q := (9, .getfield 10, 12)) rfl
theorem c172_12 : pm_code 172 12 = some (.iload_n 1, 13) := pm_of cl172_0 6 (q := (12, .iload_n 1, 13)) rfl
theorem c172_13 : pm_code 172 13 = some (.invokevirtual 104, 16) := pm_of cl172_0 7 (q := (13, .invokevirtual 104, 16)) rfl
theorem c172_16 : pm_code 172 16 = some (.aload_n 0, 17) := pm_of cl172_0 8 (q := (16, .aload_n 0, 17)) rfl
theorem c172_17 : pm_code 172 17 = some (.getfield 68, 20) := pm_of cl172_0 9 (q := (17, .getfield 68, 20)) rfl
theorem c172_20 : pm_code 172 20 = some (.aload_n 0, 21) := pm_of cl172_0 10 (q := (20, .aload_n 0, 21)) rfl
theorem c172_21 : pm_code 172 21 = some (.getfield 10, 24) := pm_of cl172_0 11 (q := (21, .getfield 10, 24)) rfl
theorem c172_24 : pm_code 172 24 = some (.invokevirtual 107, 27) := pm_of cl172_0 12 (q := (24, .invokevirtual 107, 27)) rfl
theorem c172_27 : pm_code 172 27 = some (.aload_n 0, 28) := pm_of cl172_0 13 (q := (27, .aload_n 0, 28)) rfl
theorem c172_28 : pm_code 172 28 = some (.getfield 10, 31) := pm_of cl172_0 14 (q := (28, .getfield 10, 31)) rfl
theorem c172_31 : pm_code 172 31 = some (.invokevirtual 111, 34) := pm_of cl172_0 15 (q := (31, .invokevirtual 111, 34)) rfl
theorem c172_34 : pm_code 172 34 = some (.aload_n 0, 35) := pm_of cl172_0 16 (q := (34, .aload_n 0, 35)) rfl
theorem c172_35 : pm_code 172 35 = some (.getfield 10, 38) := pm_of cl172_0 17 (q := (35, .getfield 10, 38)) rfl
theorem c172_38 : pm_code 172 38 = some (.invokevirtual 114, 41) := pm_of cl172_0 18 (q := (38, .invokevirtual 114, 41)) rfl
theorem c172_41 : pm_code 172 41 = some (.ifCond .eq 11, 44) := pm_of cl172_0 19 (q := (41, .ifCond .eq 11, 44)) rfl
theorem c172_44 : pm_code 172 44 = some (.aload_n 0, 45) := pm_of cl172_0 20 (q := (44, .aload_n 0, 45)) rfl
theorem c172_45 : pm_code 172 45 = some (.getfield 10, 48) := pm_of cl172_0 21 (q := (45, .getfield 10, 48)) rfl
theorem c172_48 : pm_code 172 48 = some (.invokevirtual 118, 51) := pm_of cl172_0 22 (q := (48, .invokevirtual 118, 51)) rfl
theorem c172_51 : pm_code 172 51 = some (.ireturn, 52) := pm_of cl172_0 23 (q := (51, .ireturn, 52)) rfl
theorem c172_52 : pm_code 172 52 = some (.aload_n 0, 53) := pm_of cl172_0 24 (q := (52, .aload_n 0, 53)) rfl
theorem c172_53 : pm_code 172 53 = some (.getfield 19, 56) := pm_of cl172_0 25 (q := (53, .getfield 19, 56)) rfl
theorem c172_56 : pm_code 172 56 = some (.invokevirtual 121, 59) := pm_of cl172_0 26 (q := (56, .invokevirtual 121, 59)) rfl
theorem c172_59 : pm_code 172 59 = some (.astore_n 2, 60) := pm_of cl172_0 27 (q := (59, .astore_n 2, 60)) rfl
theorem c172_60 : pm_code 172 60 = some (.aload_n 0, 61) := pm_of cl172_0 28 (q := (60, .aload_n 0, 61)) rfl
theorem c172_61 : pm_code 172 61 = some (.getfield 19, 64) := pm_of cl172_0 29 (q := (61, .getfield 19, 64)) rfl
theorem c172_64 : pm_code 172 64 = some (.aload_n 0, 65) := pm_of cl172_0 30 (q := (64, .aload_n 0, 65)) rfl
theorem c172_65 : pm_code 172 65 = some (.getfield 68, 68) := pm_of cl172_0 31 (q := (65, .getfield 68, 68)) rfl
theorem c172_68 : pm_code 172 68 = some (.invokevirtual 125, 71) := pm_of cl172_0 32 (q := (68, .invokevirtual 125, 71)) rfl
theorem c172_71 : pm_code 172 71 = some (.aload_n 0, 72) := pm_of cl172_0 33 (q := (71, .aload_n 0, 72)) rfl
theorem c172_72 : pm_code 172 72 = some (.aload_n 2, 73) := pm_of cl172_0 34 (q := (72, .aload_n 2, 73)) rfl
theorem c172_73 : pm_code 172 73 = some (.putfield 68, 76) := pm_of cl172_0 35 (q := (73, .putfield 68, 76)) rfl
theorem c172_76 : pm_code 172 76 = some (.aload_n 0, 77) := pm_of cl172_0 36 (q := (76, .aload_n 0, 77)) rfl
theorem c172_77 : pm_code 172 77 = some (.getfield 75, 80) := pm_of cl172_0 37 (q := (77, .getfield 75, 80)) rfl
theorem c172_80 : pm_code 172 80 = some (.invokevirtual 129, 83) := pm_of cl172_0 38 (q := (80, .invokevirtual 129, 83)) rfl
theorem c172_83 : pm_code 172 83 = some (.aload_n 0, 84) := pm_of cl172_0 39 (q := (83, .aload_n 0, 84)) rfl
theorem cl172_1 : ([(84, .getfield 26, 87), (87, .invokevirtual 130, 90), (90, .aload_n 0, 91), (91, .iconst 0, 92), (92, .putfield 82, 95), (95, .aload_n 0, 96), (96, .getfield 19, 99), (99, .invokevirtual 121, 102), (102, .invokevirtual 131, 105), (105, .ireturn, 106)] : List (Nat × Instr × Nat)).all (fun q => decide (pm_code 172 q.1 = some q.2)) = true := by decide +kernel
theorem c172_84 : pm_code 172 84 = some (.getfield 26, 87) := pm_of cl172_1 0 (q := (84, .getfield 26, 87)) rfl
theorem c172_87 : pm_code 172 87 = some (.invokevirtual 130, 90) := pm_of cl172_1 1 (q := (87, .invokevirtual 130, 90)) rfl
theorem c172_90 : pm_code 172 90 = some (.aload_n 0, 91) := pm_of cl172_1 2 (q := (90, .aload_n 0, 91)) rfl
theorem c172_91 : pm_code 172 91 = some (.iconst 0, 92) := pm_of cl172_1 3 (q := (91, .iconst 0, 92)) rfl
theorem c172_92 : pm_code 172 92 = some (.putfield 82, 95) := pm_of cl172_1 4 (q := (92, .putfield 82, 95)) rfl
theorem c172_95 : pm_code 172 95 = some (.aload_n 0, 96) := pm_of cl172_1 5 (q := (95, .aload_n 0, 96)) rfl
theorem c172_96 : pm_code 172 96 = some (.getfield 19, 99) := pm_of cl172_1 6 (q := (96, .getfield 19, 99)) rfl
theorem c172_99 : pm_code 172 99 = some (.invokevirtual 121, 102) := pm_of cl172_1 7 (q := (99, .invokevirtual 121, 102)) rfl
theorem c172_102 : pm_code 172 102 = some (.invokevirtual 131, 105) := pm_of cl172_1 8 (q := (102, .invokevirtual 131, 105)) rfl
theorem c172_105 : pm_code 172 105 = some (.ireturn, 106) := pm_of cl172_1 9 (q := (105, .ireturn, 106)) rfl
theorem k173 : pm_k 173 = 11 := by decide +kernel
theorem ml173 : pm_ml 173 = 3 := by decide +kernel
theorem rt173 : pm_rt 173 = none := by decide +kernel
theorem hh173 : pm_hh 173 = [] := by decide +kernel
theorem rc173 : pm_cl 11 = (pm_y 173).cls := by decide +kernel
theorem cl173_0 : ([(0, .aload_n 0, 1), (1, .iload_n 1, 2), (2, .ifCond .lt 23, 5), (5, .iload_n 1, 6), (6, .iload_n 2, 7), (7, .if_icmp .gt 18, 10), (10, .iload_n 1, 11), (11, .aload_n 0, 12), (12, .getfield 10, 15), (15, .invokevirtual 92, 18), (18, .if_icmp .gt 7, 21), (21, .iconst 1, 22), (22, .goto 4, 25), (25, .iconst 0, 26), (26, .invokevirtual 134, 29), (29, .return_, 30)] : List (Nat × Instr × Nat)).all (fun q => decide (pm_code 173 q.1 = some q.2)) = true := by decide +kernel
theorem c173_0 : pm_code 173 0 = some (.aload_n 0, 1) := pm_of cl173_0 0 (q := (0, .aload_n 0, 1)) rfl
theorem c173_1 : pm_code 173 1 = some (.iload_n 1, 2) := pm_of cl173_0 1 (q := (1, .iload_n 1, 2)) rfl
theorem c173_2 : pm_code 173 2 = some (.ifCond .lt 23, 5) := pm_of cl173_0 2 (q := (2, .ifCond .lt 23, 5)) rfl
theorem c173_5 : pm_code 173 5 = some (.iload_n 1, 6) := pm_of cl173_0 3 (q := (5, .iload_n 1, 6)) rfl
theorem c173_6 : pm_code 173 6 = some (.iload_n 2, 7) := pm_of cl173_0 4 (q := (6, .iload_n 2, 7)) rfl
theorem c173_7 : pm_code 173 7 = some (.if_icmp .gt 18, 10) := pm_of cl173_0 5 (q := (7, .if_icmp .gt 18, 10)) rfl
theorem c173_10 : pm_code 173 10 = some (.iload_n 1, 11) := pm_of cl173_0 6 (q := (10, .iload_n 1, 11)) rfl
theorem c173_11 : pm_code 173 11 = some (.aload_n 0, 12) := pm_of cl173_0 7 (q := (11, .aload_n 0, 12)) rfl
theorem c173_12 : pm_code 173 12 = some (.getfield 10, 15) := pm_of cl173_0 8 (q := (12, .getfield 10, 15)) rfl
theorem c173_15 : pm_code 173 15 = some (.invokevirtual 92, 18) := pm_of cl173_0 9 (q := (15, .invokevirtual 92, 18)) rfl
theorem c173_18 : pm_code 173 18 = some (.if_icmp .gt 7, 21) := pm_of cl173_0 10 (q := (18, .if_icmp .gt 7, 21)) rfl
theorem c173_21 : pm_code 173 21 = some (.iconst 1, 22) := pm_of cl173_0 11 (q := (21, .iconst 1, 22)) rfl
theorem c173_22 : pm_code 173 22 = some (.goto 4, 25) := pm_of cl173_0 12 (q := (22, .goto 4, 25)) rfl
theorem c173_25 : pm_code 173 25 = some (.iconst 0, 26) := pm_of cl173_0 13 (q := (25, .iconst 0, 26)) rfl
theorem c173_26 : pm_code 173 26 = some (.invokevirtual 134, 29) := pm_of cl173_0 14 (q := (26, .invokevirtual 134, 29)) rfl
theorem c173_29 : pm_code 173 29 = some (.return_, 30) := pm_of cl173_0 15 (q := (29, .return_, 30)) rfl
theorem k174 : pm_k 174 = 11 := by decide +kernel
theorem ml174 : pm_ml 174 = 2 := by decide +kernel
theorem rt174 : pm_rt 174 = none := by decide +kernel
theorem hh174 : pm_hh 174 = [] := by decide +kernel
theorem rc174 : pm_cl 11 = (pm_y 174).cls := by decide +kernel
theorem cl174_0 : ([(0, .iload_n 1, 1), (1, .ifCond .ne 24, 4), (4, .aload_n 0, 5), (5, .dup, 6), (6, .getfield 89, 9), (9, .iconst 1, 10), (10, .iadd, 11), (11, .putfield 89, 14), (14, .new 364, 17), (17, .dup, 18), (18, .ldc_w 366, 21), (21, .invokespecial 368, 24), (24, .athrow, 25), (25, .return_, 26)] : List (Nat × Instr × Nat)).all (fun q => decide (pm_code 174 q.1 = some q.2)) = true := by decide +kernel
theorem c174_0 : pm_code 174 0 = some (.iload_n 1, 1) := pm_of cl174_0 0 (q := (0, .iload_n 1, 1)) rfl
theorem c174_1 : pm_code 174 1 = some (.ifCond .ne 24, 4) := pm_of cl174_0 1 (q := (1, .ifCond .ne 24, 4)) rfl
theorem c174_4 : pm_code 174 4 = some (.aload_n 0, 5) := pm_of cl174_0 2 (q := (4, .aload_n 0, 5)) rfl
theorem c174_5 : pm_code 174 5 = some (.dup, 6) := pm_of cl174_0 3 (q := (5, .dup, 6)) rfl
theorem c174_6 : pm_code 174 6 = some (.getfield 89, 9) := pm_of cl174_0 4 (q := (6, .getfield 89, 9)) rfl
theorem c174_9 : pm_code 174 9 = some (.iconst 1, 10) := pm_of cl174_0 5 (q := (9, .iconst 1, 10)) rfl
theorem c174_10 : pm_code 174 10 = some (.iadd, 11) := pm_of cl174_0 6 (q := (10, .iadd, 11)) rfl
theorem c174_11 : pm_code 174 11 = some (.putfield 89, 14) := pm_of cl174_0 7 (q := (11, .putfield 89, 14)) rfl
theorem c174_14 : pm_code 174 14 = some (.new 364, 17) := pm_of cl174_0 8 (q := (14, .new 364, 17)) rfl
theorem c174_17 : pm_code 174 17 = some (.dup, 18) := pm_of cl174_0 9 (q := (17, .dup, 18)) rfl
theorem c174_18 : pm_code 174 18 = some (.ldc_w 366, 21) := pm_of cl174_0 10 (q := (18, .ldc_w 366, 21)) rfl
theorem c174_21 : pm_code 174 21 = some (.invokespecial 368, 24) := pm_of cl174_0 11 (q := (21, .invokespecial 368, 24)) rfl
theorem c174_24 : pm_code 174 24 = some (.athrow, 25) := pm_of cl174_0 12 (q := (24, .athrow, 25)) rfl
theorem c174_25 : pm_code 174 25 = some (.return_, 26) := pm_of cl174_0 13 (q := (25, .return_, 26)) rfl
theorem k175 : pm_k 175 = 11 := by decide +kernel
theorem ml175 : pm_ml 175 = 3 := by decide +kernel
theorem rt175 : pm_rt 175 = (some .int) := by decide +kernel
theorem hh175 : pm_hh 175 = [] := by decide +kernel
theorem rc175 : pm_cl 11 = (pm_y 175).cls := by decide +kernel
theorem cl175_0 : ([(0, .aload_n 0, 1), (1, .iload_n 1, 2), (2, .ifCond .eq 8, 5), (5, .iload_n 1, 6), (6, .iconst 1, 7), (7, .if_icmp .ne 7, 10), (10, .iconst 1, 11), (11, .goto 4, 14), (14, .iconst 0, 15), (15, .invokevirtual 134, 18), (18, .aload_n 0, 19), (19, .iload_n 2, 20), (20, .sipush 150, 23), (23, .invokevirtual 100, 26), (26, .aload_n 0, 27), (27, .getfield 10, 30), (30, .iload_n 2, 31), (31, .invokevirtual 104, 34), (34, .aload_n 0, 35), (35, .getfield 33, 38), (38, .aload_n 0, 39), (39, .getfield 10, 42), (42, .invokevirtual 138, 45), (45, .aload_n 0, 46), (46, .getfield 10, 49), (49, .invokevirtual 111, 52), (52, .aload_n 0, 53), (53, .getfield 10, 56), (56, .invokevirtual 114, 59), (59, .ifCond .eq 11, 62), (62, .aload_n 0, 63), (63, .getfield 10, 66), (66, .invokevirtual 118, 69), (69, .ireturn, 70), (70, .aload_n 0, 71), (71, .getfield 19, 74), (74, .iload_n 1, 75), (75, .invokevirtual 139, 78), (78, .aload_n 0, 79), (79, .getfield 33, 82)] : List (Nat × Instr × Nat)).all (fun q => decide (pm_code 175 q.1 = some q.2)) = true := by decide +kernel
theorem c175_0 : pm_code 175 0 = some (.aload_n 0, 1) := pm_of cl175_0 0 (q := (0, .aload_n 0, 1)) rfl
theorem c175_1 : pm_code 175 1 = some (.iload_n 1, 2) := pm_of cl175_0 1 (q := (1, .iload_n 1, 2)) rfl
theorem c175_2 : pm_code 175 2 = some (.ifCond .eq 8, 5) := pm_of cl175_0 2 (q := (2, .ifCond .eq 8, 5)) rfl
theorem c175_5 : pm_code 175 5 = some (.iload_n 1, 6) := pm_of cl175_0 3 (q := (5, .iload_n 1, 6)) rfl
theorem c175_6 : pm_code 175 6 = some (.iconst 1, 7) := pm_of cl175_0 4 (q := (6, .iconst 1, 7)) rfl
theorem c175_7 : pm_code 175 7 = some (.if_icmp .ne 7, 10) := pm_of cl175_0 5 (q := (7, .if_icmp .ne 7, 10)) rfl
theorem c175_10 : pm_code 175 10 = some (.iconst 1, 11) := pm_of cl175_0 6 (q := (10, .iconst 1, 11)) rfl
theorem c175_11 : pm_code 175 11 = some (.goto 4, 14) := pm_of cl175_0 7 (q := (11, .goto 4, 14)) rfl
theorem c175_14 : pm_code 175 14 = some (.iconst 0, 15) := pm_of cl175_0 8 (q := (14, .iconst 0, 15)) rfl
theorem c175_15 : pm_code 175 15 = some (.invokevirtual 134, 18) := pm_of cl175_0 9 (q := (15, .invokevirtual 134, 18)) rfl
theorem c175_18 : pm_code 175 18 = some (.aload_n 0, 19) := pm_of cl175_0 10 (q := (18, .aload_n 0, 19)) rfl
theorem c175_19 : pm_code 175 19 = some (.iload_n 2, 20) := pm_of cl175_0 11 (q := (19, .iload_n 2, 20)) rfl
theorem c175_20 : pm_code 175 20 = some (.sipush 150, 23) := pm_of cl175_0 12 (q := (20, .sipush 150, 23)) rfl
theorem c175_23 : pm_code 175 23 = some (.invokevirtual 100, 26) := pm_of cl175_0 13 (q := (23, .invokevirtual 100, 26)) rfl
theorem c175_26 : pm_code 175 26 = some (.aload_n 0, 27) := pm_of cl175_0 14 (q := (26, .aload_n 0, 27)) rfl
theorem c175_27 : pm_code 175 27 = some (.getfield 10, 30) := pm_of cl175_0 15 (q := (27, .getfield 10, 30)) rfl
theorem c175_30 : pm_code 175 30 = some (.iload_n 2, 31) := pm_of cl175_0 16 (q := (30, .iload_n 2, 31)) rfl
theorem c175_31 : pm_code 175 31 = some (.invokevirtual 104, 34) := pm_of cl175_0 17 (q := (31, .invokevirtual 104, 34)) rfl
theorem c175_34 : pm_code 175 34 = some (.aload_n 0, 35) := pm_of cl175_0 18 (q := (34, .aload_n 0, 35)) rfl
theorem c175_35 : pm_code 175 35 = some (.getfield 33, 38) := pm_of cl175_0 19 (q := (35, .getfield 33, 38)) rfl
theorem c175_38 : pm_code 175 38 = some (.aload_n 0, 39) := pm_of cl175_0 20 (q := (38, .aload_n 0, 39)) rfl
theorem c175_39 : pm_code 175 39 = some (.getfield 10, 42) := pm_of cl175_0 21 (q := (39, .getfield 10, 42)) rfl
theorem c175_42 : pm_code 175 42 = some (.invokevirtual 138, 45) := pm_of cl175_0 22 (q := (42, .invokevirtual 138, 45)) rfl
theorem c175_45 : pm_code 175 45 = some (.aload_n 0, 46) := pm_of cl175_0 23 (q := (45, .aload_n 0, 46)) rfl
theorem c175_46 : pm_code 175 46 = some (.getfield 10, 49) := pm_of cl175_0 24 (q := (46, .getfield 10, 49)) rfl
theorem c175_49 : pm_code 175 49 = some (.invokevirtual 111, 52) := pm_of cl175_0 25 (q := (49, .invokevirtual 111, 52)) rfl
theorem c175_52 : pm_code 175 52 = some (.aload_n 0, 53) := pm_of cl175_0 26 (q := (52, .aload_n 0, 53)) rfl
theorem c175_53 : pm_code 175 53 = some (.getfield 10, 56) := pm_of cl175_0 27 (q := (53, .getfield 10, 56)) rfl
theorem c175_56 : pm_code 175 56 = some (.invokevirtual 114, 59) := pm_of cl175_0 28 (q := (56, .invokevirtual 114, 59)) rfl
theorem c175_59 : pm_code 175 59 = some (.ifCond .eq 11, 62) := pm_of cl175_0 29 (q := (59, .ifCond .eq 11, 62)) rfl
theorem c175_62 : pm_code 175 62 = some (.aload_n 0, 63) := pm_of cl175_0 30 (q := (62, .aload_n 0, 63)) rfl
theorem c175_63 : pm_code 175 63 = some (.getfield 10, 66) := pm_of cl175_0 31 (q := (63, .getfield 10, 66)) rfl
theorem c175_66 : pm_code 175 66 = some (.invokevirtual 118, 69) := pm_of cl175_0 32 (q := (66, .invokevirtual 118, 69)) rfl
theorem c175_69 : pm_code 175 69 = some (.ireturn, 70) := pm_of cl175_0 33 (q := (69, .ireturn, 70)) rfl
theorem c175_70 : pm_code 175 70 = some (.aload_n 0, 71) := pm_of cl175_0 34 (q := (70, .aload_n 0, 71)) rfl
theorem c175_71 : pm_code 175 71 = some (.getfield 19, 74) := pm_of cl175_0 35 (q := (71, .getfield 19, 74)) rfl
theorem c175_74 : pm_code 175 74 = some (.iload_n 1, 75) := pm_of cl175_0 36 (q := (74, .iload_n 1, 75)) rfl
theorem c175_75 : pm_code 175 75 = some (.invokevirtual 139, 78) := pm_of cl175_0 37 (q := (75, .invokevirtual 139, 78)) rfl
theorem c175_78 : pm_code 175 78 = some (.aload_n 0, 79) := pm_of cl175_0 38 (q := (78, .aload_n 0, 79)) rfl
theorem c175_79 : pm_code 175 79 = some (.getfield 33, 82) := pm_of cl175_0 39 (q := (79, .getfield 33, 82)) rfl
theorem cl175_1 : ([(82, .invokevirtual 143, 85), (85, .iconst 1, 86), (86, .ireturn, 87)] : List (Nat × Instr × Nat)).all (fun q => decide (pm_code 175 q.1 = some q.2)) = true := by decide +kernel
theorem c175_82 : pm_code 175 82 = some (.invokevirtual 143, 85) := pm_of cl175_1 0 (q := (82, .invokevirtual 143, 85)) rfl
theorem c175_85 : pm_code 175 85 = some (.iconst 1, 86) := pm_of cl175_1 1 (q := (85, .iconst 1, 86)) rfl
theorem c175_86 : pm_code 175 86 = some (.ireturn, 87) := pm_of cl175_1 2 (q := (86, .ireturn, 87)) rfl
theorem k176 : pm_k 176 = 11 := by decide +kernel
theorem ml176 : pm_ml 176 = 2 := by decide +kernel
theorem rt176 : pm_rt 176 = (some .int) := by decide +kernel
theorem hh176 : pm_hh 176 = [] := by decide +kernel
theorem rc176 : pm_cl 11 = (pm_y 176).cls := by decide +kernel
theorem cl176_0 : ([(0, .aload_n 0, 1), (1, .iload_n 1, 2), (2, .sipush 150, 5), (5, .invokevirtual 100, 8), (8, .aload_n 0, 9), (9, .getfield 26, 12), (12, .invokevirtual 147, 15), (15, .bipush 16, 17), (17, .if_icmp .lt 20, 20), (20, .aload_n 0, 21), (21, .getfield 10, 24), (24, .invokevirtual 150, 27), (27, .aload_n 0, 28), (28, .getfield 10, 31), (31, .invokevirtual 111, 34), (34, .bipush (-20), 36), (36, .ireturn, 37), (37, .aload_n 0, 38), (38, .getfield 10, 41), (41, .iload_n 1, 42), (42, .invokevirtual 104, 45), (45, .aload_n 0, 46), (46, .getfield 40, 49), (49, .aload_n 0, 50), (50, .getfield 10, 53), (53, .aload_n 0, 54), (54, .getfield 19, 57), (57, .invokevirtual 121, 60), (60, .invokevirtual 153, 63), (63, .aload_n 0, 64), (64, .getfield 10, 67), (67, .invokevirtual 111, 70), (70, .aload_n 0, 71), (71, .getfield 10, 74), (74, .invokevirtual 114, 77), (77, .ifCond .eq 11, 80), (80, .aload_n 0, 81), (81, .getfield 10, 84), (84, .invokevirtual 118, 87), (87, .ireturn, 88)] : List (Nat × Instr × Nat)).all (fun q => decide (pm_code 176 q.1 = some q.2)) = true := by decide +kernel
theorem c176_0 : pm_code 176 0 = some (.aload_n 0, 1) := pm_of cl176_0 0 (q := (0, .aload_n 0, 1)) rfl
theorem c176_1 : pm_code 176 1 = some (.iload_n 1, 2) := pm_of cl176_0 1 (q := (1, .iload_n 1, 2)) rfl
theorem c176_2 : pm_code 176 2 = some (.sipush 150, 5) := pm_of cl176_0 2 (q := (2, .sipush 150, 5)) rfl
theorem c176_5 : pm_code 176 5 = some (.invokevirtual 100, 8) := pm_of cl176_0 3 (q := (5, .invokevirtual 100, 8)) rfl
theorem c176_8 : pm_code 176 8 = some (.aload_n 0, 9) := pm_of cl176_0 4 (q := (8, .aload_n 0, 9)) rfl
theorem c176_9 : pm_code 176 9 = some (.getfield 26, 12) := pm_of cl176_0 5 (q := (9, .getfield 26, 12)) rfl
theorem c176_12 : pm_code 176 12 = some (.invokevirtual 147, 15) := pm_of cl176_0 6 (q := (12, .invokevirtual 147, 15)) rfl
theorem c176_15 : pm_code 176 15 = some (.bipush 16, 17) := pm_of cl176_0 7 (q := (15, .bipush 16, 17)) rfl
theorem c176_17 : pm_code 176 17 = some (.if_icmp .lt 20, 20) := pm_of cl176_0 8 (q := (17, .if_icmp .lt 20, 20)) rfl
theorem c176_20 : pm_code 176 20 = some (.aload_n 0, 21) := pm_of cl176_0 9 (q := (20, .aload_n 0, 21)) rfl
theorem c176_21 : pm_code 176 21 = some (.getfield 10, 24) := pm_of cl176_0 10 (q := (21, .getfield 10, 24)) rfl
theorem c176_24 : pm_code 176 24 = some (.invokevirtual 150, 27) := pm_of cl176_0 11 (q := (24, .invokevirtual 150, 27)) rfl
theorem c176_27 : pm_code 176 27 = some (.aload_n 0, 28) := pm_of cl176_0 12 (q := (27, .aload_n 0, 28)) rfl
theorem c176_28 : pm_code 176 28 = some (.getfield 10, 31) := pm_of cl176_0 13 (q := (28, .getfield 10, 31)) rfl
theorem c176_31 : pm_code 176 31 = some (.invokevirtual 111, 34) := pm_of cl176_0 14 (q := (31, .invokevirtual 111, 34)) rfl
theorem c176_34 : pm_code 176 34 = some (.bipush (-20), 36) := pm_of cl176_0 15 (q := (34, .bipush (-20), 36)) rfl
theorem c176_36 : pm_code 176 36 = some (.ireturn, 37) := pm_of cl176_0 16 (q := (36, .ireturn, 37)) rfl
theorem c176_37 : pm_code 176 37 = some (.aload_n 0, 38) := pm_of cl176_0 17 (q := (37, .aload_n 0, 38)) rfl
theorem c176_38 : pm_code 176 38 = some (.getfield 10, 41) := pm_of cl176_0 18 (q := (38, .getfield 10, 41)) rfl
theorem c176_41 : pm_code 176 41 = some (.iload_n 1, 42) := pm_of cl176_0 19 (q := (41, .iload_n 1, 42)) rfl
theorem c176_42 : pm_code 176 42 = some (.invokevirtual 104, 45) := pm_of cl176_0 20 (q := (42, .invokevirtual 104, 45)) rfl
theorem c176_45 : pm_code 176 45 = some (.aload_n 0, 46) := pm_of cl176_0 21 (q := (45, .aload_n 0, 46)) rfl
theorem c176_46 : pm_code 176 46 = some (.getfield 40, 49) := pm_of cl176_0 22 (q := (46, .getfield 40, 49)) rfl
theorem c176_49 : pm_code 176 49 = some (.aload_n 0, 50) := pm_of cl176_0 23 (q := (49, .aload_n 0, 50)) rfl
theorem c176_50 : pm_code 176 50 = some (.getfield 10, 53) := pm_of cl176_0 24 (q := (50, .getfield 10, 53)) rfl
theorem c176_53 : pm_code 176 53 = some (.aload_n 0, 54) := pm_of cl176_0 25 (q := (53, .aload_n 0, 54)) rfl
theorem c176_54 : pm_code 176 54 = some (.getfield 19, 57) := pm_of cl176_0 26 (q := (54, .getfield 19, 57)) rfl
theorem c176_57 : pm_code 176 57 = some (.invokevirtual 121, 60) := pm_of cl176_0 27 (q := (57, .invokevirtual 121, 60)) rfl
theorem c176_60 : pm_code 176 60 = some (.invokevirtual 153, 63) := pm_of cl176_0 28 (q := (60, .invokevirtual 153, 63)) rfl
theorem c176_63 : pm_code 176 63 = some (.aload_n 0, 64) := pm_of cl176_0 29 (q := (63, .aload_n 0, 64)) rfl
theorem c176_64 : pm_code 176 64 = some (.getfield 10, 67) := pm_of cl176_0 30 (q := (64, .getfield 10, 67)) rfl
theorem c176_67 : pm_code 176 67 = some (.invokevirtual 111, 70) := pm_of cl176_0 31 (q := (67, .invokevirtual 111, 70)) rfl
theorem c176_70 : pm_code 176 70 = some (.aload_n 0, 71) := pm_of cl176_0 32 (q := (70, .aload_n 0, 71)) rfl
theorem c176_71 : pm_code 176 71 = some (.getfield 10, 74) := pm_of cl176_0 33 (q := (71, .getfield 10, 74)) rfl
theorem c176_74 : pm_code 176 74 = some (.invokevirtual 114, 77) := pm_of cl176_0 34 (q := (74, .invokevirtual 114, 77)) rfl
theorem c176_77 : pm_code 176 77 = some (.ifCond .eq 11, 80) := pm_of cl176_0 35 (q := (77, .ifCond .eq 11, 80)) rfl
theorem c176_80 : pm_code 176 80 = some (.aload_n 0, 81) := pm_of cl176_0 36 (q := (80, .aload_n 0, 81)) rfl
theorem c176_81 : pm_code 176 81 = some (.getfield 10, 84) := pm_of cl176_0 37 (q := (81, .getfield 10, 84)) rfl
theorem c176_84 : pm_code 176 84 = some (.invokevirtual 118, 87) := pm_of cl176_0 38 (q := (84, .invokevirtual 118, 87)) rfl
theorem c176_87 : pm_code 176 87 = some (.ireturn, 88) := pm_of cl176_0 39 (q := (87, .ireturn, 88)) rfl
theorem cl176_1 : ([(88, .aload_n 0, 89), (89, .getfield 26, 92), (92, .aload_n 0, 93), (93, .getfield 19, 96), (96, .invokevirtual 156, 99), (99, .invokevirtual 160, 102), (102, .aload_n 0, 103), (103, .getfield 40, 106), (106, .invokevirtual 164, 109), (109, .aload_n 0, 110), (110, .getfield 40, 113), (113, .aload_n 0, 114), (114, .getfield 19, 117), (117, .iconst 0, 118), (118, .aload_n 0, 119), (119, .getfield 40, 122), (122, .invokevirtual 166, 125), (125, .iconst 0, 126), (126, .invokevirtual 167, 129), (129, .aload_n 0, 130), (130, .aload_n 0, 131), (131, .getfield 40, 134), (134, .invokevirtual 171, 137), (137, .putfield 82, 140), (140, .aload_n 0, 141), (141, .getfield 40, 144), (144, .invokevirtual 174, 147), (147, .ireturn, 148)] : List (Nat × Instr × Nat)).all (fun q => decide (pm_code 176 q.1 = some q.2)) = true := by decide +kernel
theorem c176_88 : pm_code 176 88 = some (.aload_n 0, 89) := pm_of cl176_1 0 (q := (88, .aload_n 0, 89)) rfl
theorem c176_89 : pm_code 176 89 = some (.getfield 26, 92) := pm_of cl176_1 1 (q := (89, .getfield 26, 92)) rfl
theorem c176_92 : pm_code 176 92 = some (.aload_n 0, 93) := pm_of cl176_1 2 (q := (92, .aload_n 0, 93)) rfl
theorem c176_93 : pm_code 176 93 = some (.getfield 19, 96) := pm_of cl176_1 3 (q := (93, .getfield 19, 96)) rfl
theorem c176_96 : pm_code 176 96 = some (.invokevirtual 156, 99) := pm_of cl176_1 4 (q := (96, .invokevirtual 156, 99)) rfl
theorem c176_99 : pm_code 176 99 = some (.invokevirtual 160, 102) := pm_of cl176_1 5 (q := (99, .invokevirtual 160, 102)) rfl
theorem c176_102 : pm_code 176 102 = some (.aload_n 0, 103) := pm_of cl176_1 6 (q := (102, .aload_n 0, 103)) rfl
theorem c176_103 : pm_code 176 103 = some (.getfield 40, 106) := pm_of cl176_1 7 (q := (103, .getfield 40, 106)) rfl
theorem c176_106 : pm_code 176 106 = some (.invokevirtual 164, 109) := pm_of cl176_1 8 (q := (106, .invokevirtual 164, 109)) rfl
theorem c176_109 : pm_code 176 109 = some (.aload_n 0, 110) := pm_of cl176_1 9 (q := (109, .aload_n 0, 110)) rfl
theorem c176_110 : pm_code 176 110 = some (.getfield 40, 113) := pm_of cl176_1 10 (q := (110, .getfield 40, 113)) rfl
theorem c176_113 : pm_code 176 113 = some (.aload_n 0, 114) := pm_of cl176_1 11 (q := (113, .aload_n 0, 114)) rfl
theorem c176_114 : pm_code 176 114 = some (.getfield 19, 117) := pm_of cl176_1 12 (q := (114, .getfield 19, 117)) rfl
theorem c176_117 : pm_code 176 117 = some (.iconst 0, 118) := pm_of cl176_1 13 (q := (117, .iconst 0, 118)) rfl
theorem c176_118 : pm_code 176 118 = some (.aload_n 0, 119) := pm_of cl176_1 14 (q := (118, .aload_n 0, 119)) rfl
theorem c176_119 : pm_code 176 119 = some (.getfield 40, 122) := pm_of cl176_1 15 (q := (119, .getfield 40, 122)) rfl
theorem c176_122 : pm_code 176 122 = some (.invokevirtual 166, 125) := pm_of cl176_1 16 (q := (122, .invokevirtual 166, 125)) rfl
theorem c176_125 : pm_code 176 125 = some (.iconst 0, 126) := pm_of cl176_1 17 (q := (125, .iconst 0, 126)) rfl
theorem c176_126 : pm_code 176 126 = some (.invokevirtual 167, 129) := pm_of cl176_1 18 (q := (126, .invokevirtual 167, 129)) rfl
theorem c176_129 : pm_code 176 129 = some (.aload_n 0, 130) := pm_of cl176_1 19 (q := (129, .aload_n 0, 130)) rfl
theorem c176_130 : pm_code 176 130 = some (.aload_n 0, 131) := pm_of cl176_1 20 (q := (130, .aload_n 0, 131)) rfl
theorem c176_131 : pm_code 176 131 = some (.getfield 40, 134) := pm_of cl176_1 21 (q := (131, .getfield 40, 134)) rfl
theorem c176_134 : pm_code 176 134 = some (.invokevirtual 171, 137) := pm_of cl176_1 22 (q := (134, .invokevirtual 171, 137)) rfl
theorem c176_137 : pm_code 176 137 = some (.putfield 82, 140) := pm_of cl176_1 23 (q := (137, .putfield 82, 140)) rfl
theorem c176_140 : pm_code 176 140 = some (.aload_n 0, 141) := pm_of cl176_1 24 (q := (140, .aload_n 0, 141)) rfl
theorem c176_141 : pm_code 176 141 = some (.getfield 40, 144) := pm_of cl176_1 25 (q := (141, .getfield 40, 144)) rfl
theorem c176_144 : pm_code 176 144 = some (.invokevirtual 174, 147) := pm_of cl176_1 26 (q := (144, .invokevirtual 174, 147)) rfl
theorem c176_147 : pm_code 176 147 = some (.ireturn, 148) := pm_of cl176_1 27 (q := (147, .ireturn, 148)) rfl
theorem k177 : pm_k 177 = 11 := by decide +kernel
theorem ml177 : pm_ml 177 = 3 := by decide +kernel
theorem rt177 : pm_rt 177 = (some .int) := by decide +kernel
theorem hh177 : pm_hh 177 = [] := by decide +kernel
theorem rc177 : pm_cl 11 = (pm_y 177).cls := by decide +kernel
theorem cl177_0 : ([(0, .aload_n 0, 1), (1, .iload_n 1, 2), (2, .bipush 100, 4), (4, .invokevirtual 100, 7), (7, .aload_n 0, 8), (8, .getfield 10, 11), (11, .iload_n 1, 12), (12, .invokevirtual 104, 15), (15, .aload_n 0, 16), (16, .getfield 79, 19), (19, .aload_n 0, 20), (20, .getfield 10, 23), (23, .invokevirtual 177, 26), (26, .aload_n 0, 27), (27, .getfield 10, 30), (30, .invokevirtual 111, 33), (33, .aload_n 0, 34), (34, .getfield 10, 37), (37, .invokevirtual 114, 40), (40, .ifCond .eq 11, 43), (43, .aload_n 0, 44), (44, .getfield 10, 47), (47, .invokevirtual 118, 50), (50, .ireturn, 51), (51, .aload_n 0, 52), (52, .getfield 75, 55), (55, .astore_n 2, 56), (56, .aload_n 0, 57), (57, .aload_n 0, 58), (58, .getfield 79, 61), (61, .putfield 75, 64), (64, .aload_n 0, 65), (65, .aload_n 2, 66), (66, .putfield 79, 69), (69, .aload_n 0, 70), (70, .getfield 75, 73), (73, .invokevirtual 178, 76), (76, .ireturn, 77)] : List (Nat × Instr × Nat)).all (fun q => decide (pm_code 177 q.1 = some q.2)) = true := by decide +kernel
theorem c177_0 : pm_code 177 0 = some (.aload_n 0, 1) := pm_of cl177_0 0 (q := (0, .aload_n 0, 1)) rfl
theorem c177_1 : pm_code 177 1 = some (.iload_n 1, 2) := pm_of cl177_0 1 (q := (1, .iload_n 1, 2)) rfl
theorem c177_2 : pm_code 177 2 = some (.bipush 100, 4) := pm_of cl177_0 2 (q := (2, .bipush 100, 4)) rfl
theorem c177_4 : pm_code 177 4 = some (.invokevirtual 100, 7) := pm_of cl177_0 3 (q := (4, .invokevirtual 100, 7)) rfl
theorem c177_7 : pm_code 177 7 = some (.aload_n 0, 8) := pm_of cl177_0 4 (q := (7, .aload_n 0, 8)) rfl
theorem c177_8 : pm_code 177 8 = some (.getfield 10, 11) := pm_of cl177_0 5 (q := (8, .getfield 10, 11)) rfl
theorem c177_11 : pm_code 177 11 = some (.iload_n 1, 12) := pm_of cl177_0 6 (q := (11, .iload_n 1, 12)) rfl
theorem c177_12 : pm_code 177 12 = some (.invokevirtual 104, 15) := pm_of cl177_0 7 (q := (12, .invokevirtual 104, 15)) rfl
theorem c177_15 : pm_code 177 15 = some (.aload_n 0, 16) := pm_of cl177_0 8 (q := (15, .aload_n 0, 16)) rfl
theorem c177_16 : pm_code 177 16 = some (.getfield 79, 19) := pm_of cl177_0 9 (q := (16, .getfield 79, 19)) rfl
theorem c177_19 : pm_code 177 19 = some (.aload_n 0, 20) := pm_of cl177_0 10 (q := (19, .aload_n 0, 20)) rfl
theorem c177_20 : pm_code 177 20 = some (.getfield 10, 23) := pm_of cl177_0 11 (q := (20, .getfield 10, 23)) rfl
theorem c177_23 : pm_code 177 23 = some (.invokevirtual 177, 26) := pm_of cl177_0 12 (q := (23, .invokevirtual 177, 26)) rfl
theorem c177_26 : pm_code 177 26 = some (.aload_n 0, 27) := pm_of cl177_0 13 (q := (26, .aload_n 0, 27)) rfl
theorem c177_27 : pm_code 177 27 = some (.getfield 10, 30) := pm_of cl177_0 14 (q := (27, .getfield 10, 30)) rfl
theorem c177_30 : pm_code 177 30 = some (.invokevirtual 111, 33) := pm_of cl177_0 15 (q := (30, .invokevirtual 111, 33)) rfl
theorem c177_33 : pm_code 177 33 = some (.aload_n 0, 34) := pm_of cl177_0 16 (q := (33, .aload_n 0, 34)) rfl
theorem c177_34 : pm_code 177 34 = some (.getfield 10, 37) := pm_of cl177_0 17 (q := (34, .getfield 10, 37)) rfl
theorem c177_37 : pm_code 177 37 = some (.invokevirtual 114, 40) := pm_of cl177_0 18 (q := (37, .invokevirtual 114, 40)) rfl
theorem c177_40 : pm_code 177 40 = some (.ifCond .eq 11, 43) := pm_of cl177_0 19 (q := (40, .ifCond .eq 11, 43)) rfl
theorem c177_43 : pm_code 177 43 = some (.aload_n 0, 44) := pm_of cl177_0 20 (q := (43, .aload_n 0, 44)) rfl
theorem c177_44 : pm_code 177 44 = some (.getfield 10, 47) := pm_of cl177_0 21 (q := (44, .getfield 10, 47)) rfl
theorem c177_47 : pm_code 177 47 = some (.invokevirtual 118, 50) := pm_of cl177_0 22 (q := (47, .invokevirtual 118, 50)) rfl
theorem c177_50 : pm_code 177 50 = some (.ireturn, 51) := pm_of cl177_0 23 (q := (50, .ireturn, 51)) rfl
theorem c177_51 : pm_code 177 51 = some (.aload_n 0, 52) := pm_of cl177_0 24 (q := (51, .aload_n 0, 52)) rfl
theorem c177_52 : pm_code 177 52 = some (.getfield 75, 55) := pm_of cl177_0 25 (q := (52, .getfield 75, 55)) rfl
theorem c177_55 : pm_code 177 55 = some (.astore_n 2, 56) := pm_of cl177_0 26 (q := (55, .astore_n 2, 56)) rfl
theorem c177_56 : pm_code 177 56 = some (.aload_n 0, 57) := pm_of cl177_0 27 (q := (56, .aload_n 0, 57)) rfl
theorem c177_57 : pm_code 177 57 = some (.aload_n 0, 58) := pm_of cl177_0 28 (q := (57, .aload_n 0, 58)) rfl
theorem c177_58 : pm_code 177 58 = some (.getfield 79, 61) := pm_of cl177_0 29 (q := (58, .getfield 79, 61)) rfl
theorem c177_61 : pm_code 177 61 = some (.putfield 75, 64) := pm_of cl177_0 30 (q := (61, .putfield 75, 64)) rfl
theorem c177_64 : pm_code 177 64 = some (.aload_n 0, 65) := pm_of cl177_0 31 (q := (64, .aload_n 0, 65)) rfl
theorem c177_65 : pm_code 177 65 = some (.aload_n 2, 66) := pm_of cl177_0 32 (q := (65, .aload_n 2, 66)) rfl
theorem c177_66 : pm_code 177 66 = some (.putfield 79, 69) := pm_of cl177_0 33 (q := (66, .putfield 79, 69)) rfl
theorem c177_69 : pm_code 177 69 = some (.aload_n 0, 70) := pm_of cl177_0 34 (q := (69, .aload_n 0, 70)) rfl
theorem c177_70 : pm_code 177 70 = some (.getfield 75, 73) := pm_of cl177_0 35 (q := (70, .getfield 75, 73)) rfl
theorem c177_73 : pm_code 177 73 = some (.invokevirtual 178, 76) := pm_of cl177_0 36 (q := (73, .invokevirtual 178, 76)) rfl
theorem c177_76 : pm_code 177 76 = some (.ireturn, 77) := pm_of cl177_0 37 (q := (76, .ireturn, 77)) rfl
theorem k178 : pm_k 178 = 11 := by decide +kernel
theorem ml178 : pm_ml 178 = 2 := by decide +kernel
theorem rt178 : pm_rt 178 = (some .int) := by decide +kernel
theorem hh178 : pm_hh 178 = [] := by decide +kernel
theorem rc178 : pm_cl 11 = (pm_y 178).cls := by decide +kernel
theorem cl178_0 : ([(0, .aload_n 0, 1), (1, .iload_n 1, 2), (2, .ifCond .lt 13, 5), (5, .iload_n 1, 6), (6, .bipush 10, 8), (8, .if_icmp .gt 7, 11), (11, .iconst 1, 12), (12, .goto 4, 15), (15, .iconst 0, 16), (16, .invokevirtual 134, 19), (19, .iload_n 1, 20), (20, .tableswitch 149 0 9 #[56, 67, 78, 89, 100, 109, 118, 127, 136, 144], 76), (76, .aload_n 0, 77), (77, .getfield 19, 80), (80, .invokevirtual 121, 83), (83, .invokevirtual 131, 86), (86, .ireturn, 87), (87, .aload_n 0, 88), (88, .getfield 19, 91), (91, .invokevirtual 121, 94), (94, .invokevirtual 187, 97), (97, .ireturn, 98), (98, .aload_n 0, 99), (99, .getfield 19, 102), (102, .invokevirtual 156, 105), (105, .invokevirtual 190, 108), (108, .ireturn, 109), (109, .aload_n 0, 110), (110, .getfield 19, 113), (113, .invokevirtual 156, 116), (116, .invokevirtual 195, 119), (119, .ireturn, 120), (120, .aload_n 0, 121), (121, .getfield 19, 124), (124, .iconst 0, 125), (125, .invokevirtual 198, 128), (128, .ireturn, 129), (129, .aload_n 0, 130), (130, .getfield 19, 133), (133, .iconst 1, 134)] : List (Nat × Instr × Nat)).all (fun q => decide (pm_code 178 q.1 = some q.2)) = true := by decide +kernel
theorem c178_0 : pm_code 178 0 = some (.aload_n 0, 1) := pm_of cl178_0 0 (q := (0, .aload_n 0, 1)) rfl
theorem c178_1 : pm_code 178 1 = some (.iload_n 1, 2) := pm_of cl178_0 1 (q := (1, .iload_n 1, 2)) rfl
theorem c178_2 : pm_code 178 2 = some (.ifCond .lt 13, 5) := pm_of cl178_0 2 (q := (2, .ifCond .lt 13, 5)) rfl
theorem c178_5 : pm_code 178 5 = some (.iload_n 1, 6) := pm_of cl178_0 3 (q := (5, .iload_n 1, 6)) rfl
theorem c178_6 : pm_code 178 6 = some (.bipush 10, 8) := pm_of cl178_0 4 (q := (6, .bipush 10, 8)) rfl
theorem c178_8 : pm_code 178 8 = some (.if_icmp .gt 7, 11) := pm_of cl178_0 5 (q := (8, .if_icmp .gt 7, 11)) rfl
theorem c178_11 : pm_code 178 11 = some (.iconst 1, 12) := pm_of cl178_0 6 (q := (11, .iconst 1, 12)) rfl
theorem c178_12 : pm_code 178 12 = some (.goto 4, 15) := pm_of cl178_0 7 (q := (12, .goto 4, 15)) rfl
theorem c178_15 : pm_code 178 15 = some (.iconst 0, 16) := pm_of cl178_0 8 (q := (15, .iconst 0, 16)) rfl
theorem c178_16 : pm_code 178 16 = some (.invokevirtual 134, 19) := pm_of cl178_0 9 (q := (16, .invokevirtual 134, 19)) rfl
theorem c178_19 : pm_code 178 19 = some (.iload_n 1, 20) := pm_of cl178_0 10 (q := (19, .iload_n 1, 20)) rfl
theorem c178_20 : pm_code 178 20 = some (.tableswitch 149 0 9 #[56, 67, 78, 89, 100, 109, 118, 127, 136, 144], 76) := pm_of cl178_0 11 (q := (20, .tableswitch 149 0 9 #[56, 67, 78, 89, 100, 109, 118, 127, 136, 144], 76)) rfl
theorem c178_76 : pm_code 178 76 = some (.aload_n 0, 77) := pm_of cl178_0 12 (q := (76, .aload_n 0, 77)) rfl
theorem c178_77 : pm_code 178 77 = some (.getfield 19, 80) := pm_of cl178_0 13 (q := (77, .getfield 19, 80)) rfl
theorem c178_80 : pm_code 178 80 = some (.invokevirtual 121, 83) := pm_of cl178_0 14 (q := (80, .invokevirtual 121, 83)) rfl
theorem c178_83 : pm_code 178 83 = some (.invokevirtual 131, 86) := pm_of cl178_0 15 (q := (83, .invokevirtual 131, 86)) rfl
theorem c178_86 : pm_code 178 86 = some (.ireturn, 87) := pm_of cl178_0 16 (q := (86, .ireturn, 87)) rfl
theorem c178_87 : pm_code 178 87 = some (.aload_n 0, 88) := pm_of cl178_0 17 (q := (87, .aload_n 0, 88)) rfl
theorem c178_88 : pm_code 178 88 = some (.getfield 19, 91) := pm_of cl178_0 18 (q := (88, .getfield 19, 91)) rfl
theorem c178_91 : pm_code 178 91 = some (.invokevirtual 121, 94) := pm_of cl178_0 19 (q := (91, .invokevirtual 121, 94)) rfl
theorem c178_94 : pm_code 178 94 = some (.invokevirtual 187, 97) := pm_of cl178_0 20 (q := (94, .invokevirtual 187, 97)) rfl
theorem c178_97 : pm_code 178 97 = some (.ireturn, 98) := pm_of cl178_0 21 (q := (97, .ireturn, 98)) rfl
theorem c178_98 : pm_code 178 98 = some (.aload_n 0, 99) := pm_of cl178_0 22 (q := (98, .aload_n 0, 99)) rfl
theorem c178_99 : pm_code 178 99 = some (.getfield 19, 102) := pm_of cl178_0 23 (q := (99, .getfield 19, 102)) rfl
theorem c178_102 : pm_code 178 102 = some (.invokevirtual 156, 105) := pm_of cl178_0 24 (q := (102, .invokevirtual 156, 105)) rfl
theorem c178_105 : pm_code 178 105 = some (.invokevirtual 190, 108) := pm_of cl178_0 25 (q := (105, .invokevirtual 190, 108)) rfl
theorem c178_108 : pm_code 178 108 = some (.ireturn, 109) := pm_of cl178_0 26 (q := (108, .ireturn, 109)) rfl
theorem c178_109 : pm_code 178 109 = some (.aload_n 0, 110) := pm_of cl178_0 27 (q := (109, .aload_n 0, 110)) rfl
theorem c178_110 : pm_code 178 110 = some (.getfield 19, 113) := pm_of cl178_0 28 (q := (110, .getfield 19, 113)) rfl
theorem c178_113 : pm_code 178 113 = some (.invokevirtual 156, 116) := pm_of cl178_0 29 (q := (113, .invokevirtual 156, 116)) rfl
theorem c178_116 : pm_code 178 116 = some (.invokevirtual 195, 119) := pm_of cl178_0 30 (q := (116, .invokevirtual 195, 119)) rfl
theorem c178_119 : pm_code 178 119 = some (.ireturn, 120) := pm_of cl178_0 31 (q := (119, .ireturn, 120)) rfl
theorem c178_120 : pm_code 178 120 = some (.aload_n 0, 121) := pm_of cl178_0 32 (q := (120, .aload_n 0, 121)) rfl
theorem c178_121 : pm_code 178 121 = some (.getfield 19, 124) := pm_of cl178_0 33 (q := (121, .getfield 19, 124)) rfl
theorem c178_124 : pm_code 178 124 = some (.iconst 0, 125) := pm_of cl178_0 34 (q := (124, .iconst 0, 125)) rfl
theorem c178_125 : pm_code 178 125 = some (.invokevirtual 198, 128) := pm_of cl178_0 35 (q := (125, .invokevirtual 198, 128)) rfl
theorem c178_128 : pm_code 178 128 = some (.ireturn, 129) := pm_of cl178_0 36 (q := (128, .ireturn, 129)) rfl
theorem c178_129 : pm_code 178 129 = some (.aload_n 0, 130) := pm_of cl178_0 37 (q := (129, .aload_n 0, 130)) rfl
theorem c178_130 : pm_code 178 130 = some (.getfield 19, 133) := pm_of cl178_0 38 (q := (130, .getfield 19, 133)) rfl
theorem c178_133 : pm_code 178 133 = some (.iconst 1, 134) := pm_of cl178_0 39 (q := (133, .iconst 1, 134)) rfl
theorem cl178_1 : ([(134, .invokevirtual 198, 137), (137, .ireturn, 138), (138, .aload_n 0, 139), (139, .getfield 19, 142), (142, .iconst 2, 143), (143, .invokevirtual 198, 146), (146, .ireturn, 147), (147, .aload_n 0, 148), (148, .getfield 19, 151), (151, .iconst 3, 152), (152, .invokevirtual 198, 155), (155, .ireturn, 156), (156, .aload_n 0, 157), (157, .getfield 75, 160), (160, .invokevirtual 178, 163), (163, .ireturn, 164), (164, .aload_n 0, 165), (165, .getfield 82, 168), (168, .ireturn, 169), (169, .aload_n 0, 170), (170, .getfield 19, 173), (173, .invokevirtual 121, 176), (176, .invokevirtual 202, 179), (179, .ireturn, 180)] : List (Nat × Instr × Nat)).all (fun q => decide (pm_code 178 q.1 = some q.2)) = true := by decide +kernel
theorem c178_134 : pm_code 178 134 = some (.invokevirtual 198, 137) := pm_of cl178_1 0 (q := (134, .invokevirtual 198, 137)) rfl
theorem c178_137 : pm_code 178 137 = some (.ireturn, 138) := pm_of cl178_1 1 (q := (137, .ireturn, 138)) rfl
theorem c178_138 : pm_code 178 138 = some (.aload_n 0, 139) := pm_of cl178_1 2 (q := (138, .aload_n 0, 139)) rfl
theorem c178_139 : pm_code 178 139 = some (.getfield 19, 142) := pm_of cl178_1 3 (q := (139, .getfield 19, 142)) rfl
theorem c178_142 : pm_code 178 142 = some (.iconst 2, 143) := pm_of cl178_1 4 (q := (142, .iconst 2, 143)) rfl
theorem c178_143 : pm_code 178 143 = some (.invokevirtual 198, 146) := pm_of cl178_1 5 (q := (143, .invokevirtual 198, 146)) rfl
theorem c178_146 : pm_code 178 146 = some (.ireturn, 147) := pm_of cl178_1 6 (q := (146, .ireturn, 147)) rfl
theorem c178_147 : pm_code 178 147 = some (.aload_n 0, 148) := pm_of cl178_1 7 (q := (147, .aload_n 0, 148)) rfl
theorem c178_148 : pm_code 178 148 = some (.getfield 19, 151) := pm_of cl178_1 8 (q := (148, .getfield 19, 151)) rfl
theorem c178_151 : pm_code 178 151 = some (.iconst 3, 152) := pm_of cl178_1 9 (q := (151, .iconst 3, 152)) rfl
theorem c178_152 : pm_code 178 152 = some (.invokevirtual 198, 155) := pm_of cl178_1 10 (q := (152, .invokevirtual 198, 155)) rfl
theorem c178_155 : pm_code 178 155 = some (.ireturn, 156) := pm_of cl178_1 11 (q := (155, .ireturn, 156)) rfl
theorem c178_156 : pm_code 178 156 = some (.aload_n 0, 157) := pm_of cl178_1 12 (q := (156, .aload_n 0, 157)) rfl
theorem c178_157 : pm_code 178 157 = some (.getfield 75, 160) := pm_of cl178_1 13 (q := (157, .getfield 75, 160)) rfl
theorem c178_160 : pm_code 178 160 = some (.invokevirtual 178, 163) := pm_of cl178_1 14 (q := (160, .invokevirtual 178, 163)) rfl
theorem c178_163 : pm_code 178 163 = some (.ireturn, 164) := pm_of cl178_1 15 (q := (163, .ireturn, 164)) rfl
theorem c178_164 : pm_code 178 164 = some (.aload_n 0, 165) := pm_of cl178_1 16 (q := (164, .aload_n 0, 165)) rfl
theorem c178_165 : pm_code 178 165 = some (.getfield 82, 168) := pm_of cl178_1 17 (q := (165, .getfield 82, 168)) rfl
theorem c178_168 : pm_code 178 168 = some (.ireturn, 169) := pm_of cl178_1 18 (q := (168, .ireturn, 169)) rfl
theorem c178_169 : pm_code 178 169 = some (.aload_n 0, 170) := pm_of cl178_1 19 (q := (169, .aload_n 0, 170)) rfl
theorem c178_170 : pm_code 178 170 = some (.getfield 19, 173) := pm_of cl178_1 20 (q := (170, .getfield 19, 173)) rfl
theorem c178_173 : pm_code 178 173 = some (.invokevirtual 121, 176) := pm_of cl178_1 21 (q := (173, .invokevirtual 121, 176)) rfl
theorem c178_176 : pm_code 178 176 = some (.invokevirtual 202, 179) := pm_of cl178_1 22 (q := (176, .invokevirtual 202, 179)) rfl
theorem c178_179 : pm_code 178 179 = some (.ireturn, 180) := pm_of cl178_1 23 (q := (179, .ireturn, 180)) rfl
theorem k179 : pm_k 179 = 11 := by decide +kernel
theorem ml179 : pm_ml 179 = 3 := by decide +kernel
theorem rt179 : pm_rt 179 = (some .int) := by decide +kernel
theorem hh179 : pm_hh 179 = [] := by decide +kernel
theorem rc179 : pm_cl 11 = (pm_y 179).cls := by decide +kernel
theorem cl179_0 : ([(0, .aload_n 0, 1), (1, .iload_n 1, 2), (2, .invokevirtual 205, 5), (5, .aload_n 0, 6), (6, .iload_n 2, 7), (7, .ifCond .lt 13, 10), (10, .iload_n 2, 11), (11, .bipush 9, 13), (13, .if_icmp .gt 7, 16), (16, .iconst 1, 17), (17, .goto 4, 20), (20, .iconst 0, 21), (21, .invokevirtual 134, 24), (24, .iload_n 2, 25), (25, .tableswitch 165 0 8 #[51, 63, 75, 87, 100, 113, 126, 139, 152], 76), (76, .aload_n 0, 77), (77, .getfield 19, 80), (80, .invokevirtual 121, 83), (83, .iload_n 1, 84), (84, .invokevirtual 208, 87), (87, .ireturn, 88), (88, .aload_n 0, 89), (89, .getfield 19, 92), (92, .invokevirtual 121, 95), (95, .iload_n 1, 96), (96, .invokevirtual 211, 99), (99, .ireturn, 100), (100, .aload_n 0, 101), (101, .getfield 19, 104), (104, .invokevirtual 121, 107), (107, .iload_n 1, 108), (108, .invokevirtual 214, 111), (111, .ireturn, 112), (112, .aload_n 0, 113), (113, .getfield 19, 116), (116, .invokevirtual 156, 119), (119, .iconst 0, 120), (120, .iload_n 1, 121), (121, .invokevirtual 217, 124), (124, .ireturn, 125)] : List (Nat × Instr × Nat)).all (fun q => decide (pm_code 179 q.1 = some q.2)) = true := by decide +kernel
theorem c179_0 : pm_code 179 0 = some (.aload_n 0, 1) := pm_of cl179_0 0 (q := (0, .aload_n 0, 1)) rfl
theorem c179_1 : pm_code 179 1 = some (.iload_n 1, 2) := pm_of cl179_0 1 (q := (1, .iload_n 1, 2)) rfl
theorem c179_2 : pm_code 179 2 = some (.invokevirtual 205, 5) := pm_of cl179_0 2 (q := (2, .invokevirtual 205, 5)) rfl
theorem c179_5 : pm_code 179 5 = some (.aload_n 0, 6) := pm_of cl179_0 3 (q := (5, .aload_n 0, 6)) rfl
theorem c179_6 : pm_code 179 6 = some (.iload_n 2, 7) := pm_of cl179_0 4 (q := (6, .iload_n 2, 7)) rfl
theorem c179_7 : pm_code 179 7 = some (.ifCond .lt 13, 10) := pm_of cl179_0 5 (q := (7, .ifCond .lt 13, 10)) rfl
theorem c179_10 : pm_code 179 10 = some (.iload_n 2, 11) := pm_of cl179_0 6 (q := (10, .iload_n 2, 11)) rfl
theorem c179_11 : pm_code 179 11 = some (.bipush 9, 13) := pm_of cl179_0 7 (q := (11, .bipush 9, 13)) rfl
theorem c179_13 : pm_code 179 13 = some (.if_icmp .gt 7, 16) := pm_of cl179_0 8 (q := (13, .if_icmp .gt 7, 16)) rfl
theorem c179_16 : pm_code 179 16 = some (.iconst 1, 17) := pm_of cl179_0 9 (q := (16, .iconst 1, 17)) rfl
theorem c179_17 : pm_code 179 17 = some (.goto 4, 20) := pm_of cl179_0 10 (q := (17, .goto 4, 20)) rfl
theorem c179_20 : pm_code 179 20 = some (.iconst 0, 21) := pm_of cl179_0 11 (q := (20, .iconst 0, 21)) rfl
theorem c179_21 : pm_code 179 21 = some (.invokevirtual 134, 24) := pm_of cl179_0 12 (q := (21, .invokevirtual 134, 24)) rfl
theorem c179_24 : pm_code 179 24 = some (.iload_n 2, 25) := pm_of cl179_0 13 (q := (24, .iload_n 2, 25)) rfl
theorem c179_25 : pm_code 179 25 = some (.tableswitch 165 0 8 #[51, 63, 75, 87, 100, 113, 126, 139, 152], 76) := pm_of cl179_0 14 (q := (25, .tableswitch 165 0 8 #[51, 63, 75, 87, 100, 113, 126, 139, 152], 76)) rfl
theorem c179_76 : pm_code 179 76 = some (.aload_n 0, 77) := pm_of cl179_0 15 (q := (76, .aload_n 0, 77)) rfl
theorem c179_77 : pm_code 179 77 = some (.getfield 19, 80) := pm_of cl179_0 16 (q := (77, .getfield 19, 80)) rfl
theorem c179_80 : pm_code 179 80 = some (.invokevirtual 121, 83) := pm_of cl179_0 17 (q := (80, .invokevirtual 121, 83)) rfl
theorem c179_83 : pm_code 179 83 = some (.iload_n 1, 84) := pm_of cl179_0 18 (q := (83, .iload_n 1, 84)) rfl
theorem c179_84 : pm_code 179 84 = some (.invokevirtual 208, 87) := pm_of cl179_0 19 (q := (84, .invokevirtual 208, 87)) rfl
theorem c179_87 : pm_code 179 87 = some (.ireturn, 88) := pm_of cl179_0 20 (q := (87, .ireturn, 88)) rfl
theorem c179_88 : pm_code 179 88 = some (.aload_n 0, 89) := pm_of cl179_0 21 (q := (88, .aload_n 0, 89)) rfl
theorem c179_89 : pm_code 179 89 = some (.getfield 19, 92) := pm_of cl179_0 22 (q := (89, .getfield 19, 92)) rfl
theorem c179_92 : pm_code 179 92 = some (.invokevirtual 121, 95) := pm_of cl179_0 23 (q := (92, .invokevirtual 121, 95)) rfl
theorem c179_95 : pm_code 179 95 = some (.iload_n 1, 96) := pm_of cl179_0 24 (q := (95, .iload_n 1, 96)) rfl
theorem c179_96 : pm_code 179 96 = some (.invokevirtual 211, 99) := pm_of cl179_0 25 (q := (96, .invokevirtual 211, 99)) rfl
theorem c179_99 : pm_code 179 99 = some (.ireturn, 100) := pm_of cl179_0 26 (q := (99, .ireturn, 100)) rfl
theorem c179_100 : pm_code 179 100 = some (.aload_n 0, 101) := pm_of cl179_0 27 (q := (100, .aload_n 0, 101)) rfl
theorem c179_101 : pm_code 179 101 = some (.getfield 19, 104) := pm_of cl179_0 28 (q := (101, .getfield 19, 104)) rfl
theorem c179_104 : pm_code 179 104 = some (.invokevirtual 121, 107) := pm_of cl179_0 29 (q := (104, .invokevirtual 121, 107)) rfl
theorem c179_107 : pm_code 179 107 = some (.iload_n 1, 108) := pm_of cl179_0 30 (q := (107, .iload_n 1, 108)) rfl
theorem c179_108 : pm_code 179 108 = some (.invokevirtual 214, 111) := pm_of cl179_0 31 (q := (108, .invokevirtual 214, 111)) rfl
theorem c179_111 : pm_code 179 111 = some (.ireturn, 112) := pm_of cl179_0 32 (q := (111, .ireturn, 112)) rfl
theorem c179_112 : pm_code 179 112 = some (.aload_n 0, 113) := pm_of cl179_0 33 (q := (112, .aload_n 0, 113)) rfl
theorem c179_113 : pm_code 179 113 = some (.getfield 19, 116) := pm_of cl179_0 34 (q := (113, .getfield 19, 116)) rfl
theorem c179_116 : pm_code 179 116 = some (.invokevirtual 156, 119) := pm_of cl179_0 35 (q := (116, .invokevirtual 156, 119)) rfl
theorem c179_119 : pm_code 179 119 = some (.iconst 0, 120) := pm_of cl179_0 36 (q := (119, .iconst 0, 120)) rfl
theorem c179_120 : pm_code 179 120 = some (.iload_n 1, 121) := pm_of cl179_0 37 (q := (120, .iload_n 1, 121)) rfl
theorem c179_121 : pm_code 179 121 = some (.invokevirtual 217, 124) := pm_of cl179_0 38 (q := (121, .invokevirtual 217, 124)) rfl
theorem c179_124 : pm_code 179 124 = some (.ireturn, 125) := pm_of cl179_0 39 (q := (124, .ireturn, 125)) rfl
theorem cl179_1 : ([(125, .aload_n 0, 126), (126, .getfield 19, 129), (129, .invokevirtual 156, 132), (132, .iconst 1, 133), (133, .iload_n 1, 134), (134, .invokevirtual 217, 137), (137, .ireturn, 138), (138, .aload_n 0, 139), (139, .getfield 19, 142), (142, .invokevirtual 156, 145), (145, .iconst 2, 146), (146, .iload_n 1, 147), (147, .invokevirtual 217, 150), (150, .ireturn, 151), (151, .aload_n 0, 152), (152, .getfield 19, 155), (155, .invokevirtual 156, 158), (158, .iconst 3, 159), (159, .iload_n 1, 160), (160, .invokevirtual 217, 163), (163, .ireturn, 164), (164, .aload_n 0, 165), (165, .getfield 19, 168), (168, .invokevirtual 156, 171), (171, .iconst 4, 172), (172, .iload_n 1, 173), (173, .invokevirtual 217, 176), (176, .ireturn, 177), (177, .aload_n 0, 178), (178, .getfield 19, 181), (181, .invokevirtual 156, 184), (184, .iconst 5, 185), (185, .iload_n 1, 186), (186, .invokevirtual 217, 189), (189, .ireturn, 190), (190, .aload_n 0, 191), (191, .getfield 19, 194), (194, .invokevirtual 156, 197), (197, .bipush 6, 199), (199, .iload_n 1, 200)] : List (Nat × Instr × Nat)).all (fun q => decide (pm_code 179 q.1 = some q.2)) = true := by decide +kernel
theorem c179_125 : pm_code 179 125 = some (.aload_n 0, 126) := pm_of cl179_1 0 (q := (125, .aload_n 0, 126)) rfl
theorem c179_126 : pm_code 179 126 = some (.getfield 19, 129) := pm_of cl179_1 1 (q := (126, .getfield 19, 129)) rfl
theorem c179_129 : pm_code 179 129 = some (.invokevirtual 156, 132) := pm_of cl179_1 2 (q := (129, .invokevirtual 156, 132)) rfl
theorem c179_132 : pm_code 179 132 = some (.iconst 1, 133) := pm_of cl179_1 3 (q := (132, .iconst 1, 133)) rfl
theorem c179_133 : pm_code 179 133 = some (.iload_n 1, 134) := pm_of cl179_1 4 (q := (133, .iload_n 1, 134)) rfl
theorem c179_134 : pm_code 179 134 = some (.invokevirtual 217, 137) := pm_of cl179_1 5 (q := (134, .invokevirtual 217, 137)) rfl
theorem c179_137 : pm_code 179 137 = some (.ireturn, 138) := pm_of cl179_1 6 (q := (137, .ireturn, 138)) rfl
theorem c179_138 : pm_code 179 138 = some (.aload_n 0, 139) := pm_of cl179_1 7 (q := (138, .aload_n 0, 139)) rfl
theorem c179_139 : pm_code 179 139 = some (.getfield 19, 142) := pm_of cl179_1 8 (q := (139, .getfield 19, 142)) rfl
theorem c179_142 : pm_code 179 142 = some (.invokevirtual 156, 145) := pm_of cl179_1 9 (q := (142, .invokevirtual 156, 145)) rfl
theorem c179_145 : pm_code 179 145 = some (.iconst 2, 146) := pm_of cl179_1 10 (q := (145, .iconst 2, 146)) rfl
theorem c179_146 : pm_code 179 146 = some (.iload_n 1, 147) := pm_of cl179_1 11 (q := (146, .iload_n 1, 147)) rfl
theorem c179_147 : pm_code 179 147 = some (.invokevirtual 217, 150) := pm_of cl179_1 12 (q := (147, .invokevirtual 217, 150)) rfl
theorem c179_150 : pm_code 179 150 = some (.ireturn, 151) := pm_of cl179_1 13 (q := (150, .ireturn, 151)) rfl
theorem c179_151 : pm_code 179 151 = some (.aload_n 0, 152) := pm_of cl179_1 14 (q := (151, .aload_n 0, 152)) rfl
theorem c179_152 : pm_code 179 152 = some (.getfield 19, 155) := pm_of cl179_1 15 (q := (152, .getfield 19, 155)) rfl
theorem c179_155 : pm_code 179 155 = some (.invokevirtual 156, 158) := pm_of cl179_1 16 (q := (155, .invokevirtual 156, 158)) rfl
theorem c179_158 : pm_code 179 158 = some (.iconst 3, 159) := pm_of cl179_1 17 (q := (158, .iconst 3, 159)) rfl
theorem c179_159 : pm_code 179 159 = some (.iload_n 1, 160) := pm_of cl179_1 18 (q := (159, .iload_n 1, 160)) rfl
theorem c179_160 : pm_code 179 160 = some (.invokevirtual 217, 163) := pm_of cl179_1 19 (q := (160, .invokevirtual 217, 163)) rfl
theorem c179_163 : pm_code 179 163 = some (.ireturn, 164) := pm_of cl179_1 20 (q := (163, .ireturn, 164)) rfl
theorem c179_164 : pm_code 179 164 = some (.aload_n 0, 165) := pm_of cl179_1 21 (q := (164, .aload_n 0, 165)) rfl
theorem c179_165 : pm_code 179 165 = some (.getfield 19, 168) := pm_of cl179_1 22 (q := (165, .getfield 19, 168)) rfl
theorem c179_168 : pm_code 179 168 = some (.invokevirtual 156, 171) := pm_of cl179_1 23 (q := (168, .invokevirtual 156, 171)) rfl
theorem c179_171 : pm_code 179 171 = some (.iconst 4, 172) := pm_of cl179_1 24 (q := (171, .iconst 4, 172)) rfl
theorem c179_172 : pm_code 179 172 = some (.iload_n 1, 173) := pm_of cl179_1 25 (q := (172, .iload_n 1, 173)) rfl
theorem c179_173 : pm_code 179 173 = some (.invokevirtual 217, 176) := pm_of cl179_1 26 (q := (173, .invokevirtual 217, 176)) rfl
theorem c179_176 : pm_code 179 176 = some (.ireturn, 177) := pm_of cl179_1 27 (q := (176, .ireturn, 177)) rfl
theorem c179_177 : pm_code 179 177 = some (.aload_n 0, 178) := pm_of cl179_1 28 (q := (177, .aload_n 0, 178)) rfl
theorem c179_178 : pm_code 179 178 = some (.getfield 19, 181) := pm_of cl179_1 29 (q := (178, .getfield 19, 181)) rfl
theorem c179_181 : pm_code 179 181 = some (.invokevirtual 156, 184) := pm_of cl179_1 30 (q := (181, .invokevirtual 156, 184)) rfl
theorem c179_184 : pm_code 179 184 = some (.iconst 5, 185) := pm_of cl179_1 31 (q := (184, .iconst 5, 185)) rfl
theorem c179_185 : pm_code 179 185 = some (.iload_n 1, 186) := pm_of cl179_1 32 (q := (185, .iload_n 1, 186)) rfl
theorem c179_186 : pm_code 179 186 = some (.invokevirtual 217, 189) := pm_of cl179_1 33 (q := (186, .invokevirtual 217, 189)) rfl
theorem c179_189 : pm_code 179 189 = some (.ireturn, 190) := pm_of cl179_1 34 (q := (189, .ireturn, 190)) rfl
theorem c179_190 : pm_code 179 190 = some (.aload_n 0, 191) := pm_of cl179_1 35 (q := (190, .aload_n 0, 191)) rfl
theorem c179_191 : pm_code 179 191 = some (.getfield 19, 194) := pm_of cl179_1 36 (q := (191, .getfield 19, 194)) rfl
theorem c179_194 : pm_code 179 194 = some (.invokevirtual 156, 197) := pm_of cl179_1 37 (q := (194, .invokevirtual 156, 197)) rfl
theorem c179_197 : pm_code 179 197 = some (.bipush 6, 199) := pm_of cl179_1 38 (q := (197, .bipush 6, 199)) rfl
theorem c179_199 : pm_code 179 199 = some (.iload_n 1, 200) := pm_of cl179_1 39 (q := (199, .iload_n 1, 200)) rfl
theorem cl179_2 : ([(200, .invokevirtual 217, 203), (203, .ireturn, 204)] : List (Nat × Instr × Nat)).all (fun q => decide (pm_code 179 q.1 = some q.2)) = true := by decide +kernel
theorem c179_200 : pm_code 179 200 = some (.invokevirtual 217, 203) := pm_of cl179_2 0 (q := (200, .invokevirtual 217, 203)) rfl
theorem c179_203 : pm_code 179 203 = some (.ireturn, 204) := pm_of cl179_2 1 (q := (203, .ireturn, 204)) rfl
theorem k180 : pm_k 180 = 11 := by decide +kernel
theorem ml180 : pm_ml 180 = 2 := by decide +kernel
theorem rt180 : pm_rt 180 = none := by decide +kernel
theorem hh180 : pm_hh 180 = [] := by decide +kernel
theorem rc180 : pm_cl 11 = (pm_y 180).cls := by decide +kernel
theorem cl180_0 : ([(0, .aload_n 0, 1), (1, .getfield 19, 4), (4, .invokevirtual 121, 7), (7, .iload_n 1, 8), (8, .invokevirtual 371, 11), (11, .ifCond .ne 24, 14), (14, .aload_n 0, 15), (15, .dup, 16), (16, .getfield 86, 19), (19, .iconst 1, 20), (20, .iadd, 21), (21, .putfield 86, 24), (24, .new 374, 27), (27, .dup, 28), (28, .ldc_w 376, 31), (31, .invokespecial 378, 34), (34, .athrow, 35), (35, .return_, 36)] : List (Nat × Instr × Nat)).all (fun q => decide (pm_code 180 q.1 = some q.2)) = true := by decide +kernel
theorem c180_0 : pm_code 180 0 = some (.aload_n 0, 1) := pm_of cl180_0 0 (q := (0, .aload_n 0, 1)) rfl
theorem c180_1 : pm_code 180 1 = some (.getfield 19, 4) := pm_of cl180_0 1 (q := (1, .getfield 19, 4)) rfl
theorem c180_4 : pm_code 180 4 = some (.invokevirtual 121, 7) := pm_of cl180_0 2 (q := (4, .invokevirtual 121, 7)) rfl
theorem c180_7 : pm_code 180 7 = some (.iload_n 1, 8) := pm_of cl180_0 3 (q := (7, .iload_n 1, 8)) rfl
theorem c180_8 : pm_code 180 8 = some (.invokevirtual 371, 11) := pm_of cl180_0 4 (q := (8, .invokevirtual 371, 11)) rfl
theorem c180_11 : pm_code 180 11 = some (.ifCond .ne 24, 14) := pm_of cl180_0 5 (q := (11, .ifCond .ne 24, 14)) rfl
theorem c180_14 : pm_code 180 14 = some (.aload_n 0, 15) := pm_of cl180_0 6 (q := (14, .aload_n 0, 15)) rfl
theorem c180_15 : pm_code 180 15 = some (.dup, 16) := pm_of cl180_0 7 (q := (15, .dup, 16)) rfl
theorem c180_16 : pm_code 180 16 = some (.getfield 86, 19) := pm_of cl180_0 8 (q := (16, .getfield 86, 19)) rfl
theorem c180_19 : pm_code 180 19 = some (.iconst 1, 20) := pm_of cl180_0 9 (q := (19, .iconst 1, 20)) rfl
theorem c180_20 : pm_code 180 20 = some (.iadd, 21) := pm_of cl180_0 10 (q := (20, .iadd, 21)) rfl
theorem c180_21 : pm_code 180 21 = some (.putfield 86, 24) := pm_of cl180_0 11 (q := (21, .putfield 86, 24)) rfl
theorem c180_24 : pm_code 180 24 = some (.new 374, 27) := pm_of cl180_0 12 (q := (24, .new 374, 27)) rfl
theorem c180_27 : pm_code 180 27 = some (.dup, 28) := pm_of cl180_0 13 (q := (27, .dup, 28)) rfl
theorem c180_28 : pm_code 180 28 = some (.ldc_w 376, 31) := pm_of cl180_0 14 (q := (28, .ldc_w 376, 31)) rfl
theorem c180_31 : pm_code 180 31 = some (.invokespecial 378, 34) := pm_of cl180_0 15 (q := (31, .invokespecial 378, 34)) rfl
theorem c180_34 : pm_code 180 34 = some (.athrow, 35) := pm_of cl180_0 16 (q := (34, .athrow, 35)) rfl
theorem c180_35 : pm_code 180 35 = some (.return_, 36) := pm_of cl180_0 17 (q := (35, .return_, 36)) rfl
theorem k181 : pm_k 181 = 11 := by decide +kernel
theorem ml181 : pm_ml 181 = 3 := by decide +kernel
theorem rt181 : pm_rt 181 = (some .int) := by decide +kernel
theorem hh181 : pm_hh 181 = [] := by decide +kernel
theorem rc181 : pm_cl 11 = (pm_y 181).cls := by decide +kernel
theorem cl181_0 : ([(0, .aload_n 0, 1), (1, .iload_n 1, 2), (2, .invokevirtual 221, 5), (5, .aload_n 0, 6), (6, .iload_n 2, 7), (7, .ifCond .lt 12, 10), (10, .iload_n 2, 11), (11, .iconst 3, 12), (12, .if_icmp .gt 7, 15), (15, .iconst 1, 16), (16, .goto 4, 19), (19, .iconst 0, 20), (20, .invokevirtual 134, 23), (23, .iload_n 2, 24), (24, .tableswitch 64 0 2 #[28, 40, 52], 52), (52, .aload_n 0, 53), (53, .getfield 19, 56), (56, .invokevirtual 121, 59), (59, .iload_n 1, 60), (60, .invokevirtual 224, 63), (63, .ireturn, 64), (64, .aload_n 0, 65), (65, .getfield 19, 68), (68, .invokevirtual 121, 71), (71, .iload_n 1, 72), (72, .invokevirtual 227, 75), (75, .ireturn, 76), (76, .aload_n 0, 77), (77, .getfield 19, 80), (80, .invokevirtual 121, 83), (83, .iload_n 1, 84), (84, .invokevirtual 230, 87), (87, .ireturn, 88), (88, .aload_n 0, 89), (89, .getfield 19, 92), (92, .iload_n 1, 93), (93, .invokevirtual 233, 96), (96, .ireturn, 97)] : List (Nat × Instr × Nat)).all (fun q => decide (pm_code 181 q.1 = some q.2)) = true := by decide +kernel
theorem c181_0 : pm_code 181 0 = some (.aload_n 0, 1) := pm_of cl181_0 0 (q := (0, .aload_n 0, 1)) rfl
theorem c181_1 : pm_code 181 1 = some (.iload_n 1, 2) := pm_of cl181_0 1 (q := (1, .iload_n 1, 2)) rfl
theorem c181_2 : pm_code 181 2 = some (.invokevirtual 221, 5) := pm_of cl181_0 2 (q := (2, .invokevirtual 221, 5)) rfl
theorem c181_5 : pm_code 181 5 = some (.aload_n 0, 6) := pm_of cl181_0 3 (q := (5, .aload_n 0, 6)) rfl
theorem c181_6 : pm_code 181 6 = some (.iload_n 2, 7) := pm_of cl181_0 4 (q := (6, .iload_n 2, 7)) rfl
theorem c181_7 : pm_code 181 7 = some (.ifCond .lt 12, 10) := pm_of cl181_0 5 (q := (7, .ifCond .lt 12, 10)) rfl
theorem c181_10 : pm_code 181 10 = some (.iload_n 2, 11) := pm_of cl181_0 6 (q := (10, .iload_n 2, 11)) rfl
theorem c181_11 : pm_code 181 11 = some (.iconst 3, 12) := pm_of cl181_0 7 (q := (11, .iconst 3, 12)) rfl
theorem c181_12 : pm_code 181 12 = some (.if_icmp .gt 7, 15) := pm_of cl181_0 8 (q := (12, .if_icmp .gt 7, 15)) rfl
theorem c181_15 : pm_code 181 15 = some (.iconst 1, 16) := pm_of cl181_0 9 (q := (15, .iconst 1, 16)) rfl
theorem c181_16 : pm_code 181 16 = some (.goto 4, 19) := pm_of cl181_0 10 (q := (16, .goto 4, 19)) rfl
theorem c181_19 : pm_code 181 19 = some (.iconst 0, 20) := pm_of cl181_0 11 (q := (19, .iconst 0, 20)) rfl
theorem c181_20 : pm_code 181 20 = some (.invokevirtual 134, 23) := pm_of cl181_0 12 (q := (20, .invokevirtual 134, 23)) rfl
theorem c181_23 : pm_code 181 23 = some (.iload_n 2, 24) := pm_of cl181_0 13 (q := (23, .iload_n 2, 24)) rfl
theorem c181_24 : pm_code 181 24 = some (.tableswitch 64 0 2 #[28, 40, 52], 52) := pm_of cl181_0 14 (q := (24, .tableswitch 64 0 2 #[28, 40, 52], 52)) rfl
theorem c181_52 : pm_code 181 52 = some (.aload_n 0, 53) := pm_of cl181_0 15 (q := (52, .aload_n 0, 53)) rfl
theorem c181_53 : pm_code 181 53 = some (.getfield 19, 56) := pm_of cl181_0 16 (q := (53, .getfield 19, 56)) rfl
theorem c181_56 : pm_code 181 56 = some (.invokevirtual 121, 59) := pm_of cl181_0 17 (q := (56, .invokevirtual 121, 59)) rfl
theorem c181_59 : pm_code 181 59 = some (.iload_n 1, 60) := pm_of cl181_0 18 (q := (59, .iload_n 1, 60)) rfl
theorem c181_60 : pm_code 181 60 = some (.invokevirtual 224, 63) := pm_of cl181_0 19 (q := (60, .invokevirtual 224, 63)) rfl
theorem c181_63 : pm_code 181 63 = some (.ireturn, 64) := pm_of cl181_0 20 (q := (63, .ireturn, 64)) rfl
theorem c181_64 : pm_code 181 64 = some (.aload_n 0, 65) := pm_of cl181_0 21 (q := (64, .aload_n 0, 65)) rfl
theorem c181_65 : pm_code 181 65 = some (.getfield 19, 68) := pm_of cl181_0 22 (q := (65, .getfield 19, 68)) rfl
theorem c181_68 : pm_code 181 68 = some (.invokevirtual 121, 71) := pm_of cl181_0 23 (q := (68, .invokevirtual 121, 71)) rfl
theorem c181_71 : pm_code 181 71 = some (.iload_n 1, 72) := pm_of cl181_0 24 (q := (71, .iload_n 1, 72)) rfl
theorem c181_72 : pm_code 181 72 = some (.invokevirtual 227, 75) := pm_of cl181_0 25 (q := (72, .invokevirtual 227, 75)) rfl
theorem c181_75 : pm_code 181 75 = some (.ireturn, 76) := pm_of cl181_0 26 (q := (75, .ireturn, 76)) rfl
theorem c181_76 : pm_code 181 76 = some (.aload_n 0, 77) := pm_of cl181_0 27 (q := (76, .aload_n 0, 77)) rfl
theorem c181_77 : pm_code 181 77 = some (.getfield 19, 80) := pm_of cl181_0 28 (q := (77, .getfield 19, 80)) rfl
theorem c181_80 : pm_code 181 80 = some (.invokevirtual 121, 83) := pm_of cl181_0 29 (q := (80, .invokevirtual 121, 83)) rfl
theorem c181_83 : pm_code 181 83 = some (.iload_n 1, 84) := pm_of cl181_0 30 (q := (83, .iload_n 1, 84)) rfl
theorem c181_84 : pm_code 181 84 = some (.invokevirtual 230, 87) := pm_of cl181_0 31 (q := (84, .invokevirtual 230, 87)) rfl
theorem c181_87 : pm_code 181 87 = some (.ireturn, 88) := pm_of cl181_0 32 (q := (87, .ireturn, 88)) rfl
theorem c181_88 : pm_code 181 88 = some (.aload_n 0, 89) := pm_of cl181_0 33 (q := (88, .aload_n 0, 89)) rfl
theorem c181_89 : pm_code 181 89 = some (.getfield 19, 92) := pm_of cl181_0 34 (q := (89, .getfield 19, 92)) rfl
theorem c181_92 : pm_code 181 92 = some (.iload_n 1, 93) := pm_of cl181_0 35 (q := (92, .iload_n 1, 93)) rfl
theorem c181_93 : pm_code 181 93 = some (.invokevirtual 233, 96) := pm_of cl181_0 36 (q := (93, .invokevirtual 233, 96)) rfl
theorem c181_96 : pm_code 181 96 = some (.ireturn, 97) := pm_of cl181_0 37 (q := (96, .ireturn, 97)) rfl
theorem k182 : pm_k 182 = 11 := by decide +kernel
theorem ml182 : pm_ml 182 = 2 := by decide +kernel
theorem rt182 : pm_rt 182 = none := by decide +kernel
theorem hh182 : pm_hh 182 = [] := by decide +kernel
theorem rc182 : pm_cl 11 = (pm_y 182).cls := by decide +kernel
theorem cl182_0 : ([(0, .aload_n 0, 1), (1, .getfield 19, 4), (4, .invokevirtual 121, 7), (7, .iload_n 1, 8), (8, .invokevirtual 379, 11), (11, .ifCond .ne 24, 14), (14, .aload_n 0, 15), (15, .dup, 16), (16, .getfield 86, 19), (19, .iconst 1, 20), (20, .iadd, 21), (21, .putfield 86, 24), (24, .new 374, 27), (27, .dup, 28), (28, .ldc_w 382, 31), (31, .invokespecial 378, 34), (34, .athrow, 35), (35, .return_, 36)] : List (Nat × Instr × Nat)).all (fun q => decide (pm_code 182 q.1 = some q.2)) = true := by decide +kernel
theorem c182_0 : pm_code 182 0 = some (.aload_n 0, 1) := pm_of cl182_0 0 (q := (0, .aload_n 0, 1)) rfl
theorem c182_1 : pm_code 182 1 = some (.getfield 19, 4) := pm_of cl182_0 1 (q := (1, .getfield 19, 4)) rfl
theorem c182_4 : pm_code 182 4 = some (.invokevirtual 121, 7) := pm_of cl182_0 2 (q := (4, .invokevirtual 121, 7)) rfl
theorem c182_7 : pm_code 182 7 = some (.iload_n 1, 8) := pm_of cl182_0 3 (q := (7, .iload_n 1, 8)) rfl
theorem c182_8 : pm_code 182 8 = some (.invokevirtual 379, 11) := pm_of cl182_0 4 (q := (8, .invokevirtual 379, 11)) rfl
theorem c182_11 : pm_code 182 11 = some (.ifCond .ne 24, 14) := pm_of cl182_0 5 (q := (11, .ifCond .ne 24, 14)) rfl
theorem c182_14 : pm_code 182 14 = some (.aload_n 0, 15) := pm_of cl182_0 6 (q := (14, .aload_n 0, 15)) rfl
theorem c182_15 : pm_code 182 15 = some (.dup, 16) := pm_of cl182_0 7 (q := (15, .dup, 16)) rfl
theorem c182_16 : pm_code 182 16 = some (.getfield 86, 19) := pm_of cl182_0 8 (q := (16, .getfield 86, 19)) rfl
theorem c182_19 : pm_code 182 19 = some (.iconst 1, 20) := pm_of cl182_0 9 (q := (19, .iconst 1, 20)) rfl
theorem c182_20 : pm_code 182 20 = some (.iadd, 21) := pm_of cl182_0 10 (q := (20, .iadd, 21)) rfl
theorem c182_21 : pm_code 182 21 = some (.putfield 86, 24) := pm_of cl182_0 11 (q := (21, .putfield 86, 24)) rfl
theorem c182_24 : pm_code 182 24 = some (.new 374, 27) := pm_of cl182_0 12 (q := (24, .new 374, 27)) rfl
theorem c182_27 : pm_code 182 27 = some (.dup, 28) := pm_of cl182_0 13 (q := (27, .dup, 28)) rfl
theorem c182_28 : pm_code 182 28 = some (.ldc_w 382, 31) := pm_of cl182_0 14 (q := (28, .ldc_w 382, 31)) rfl
theorem c182_31 : pm_code 182 31 = some (.invokespecial 378, 34) := pm_of cl182_0 15 (q := (31, .invokespecial 378, 34)) rfl
theorem c182_34 : pm_code 182 34 = some (.athrow, 35) := pm_of cl182_0 16 (q := (34, .athrow, 35)) rfl
theorem c182_35 : pm_code 182 35 = some (.return_, 36) := pm_of cl182_0 17 (q := (35, .return_, 36)) rfl
theorem k183 : pm_k 183 = 11 := by decide +kernel
theorem ml183 : pm_ml 183 = 3 := by decide +kernel
theorem rt183 : pm_rt 183 = (some .int) := by decide +kernel
theorem hh183 : pm_hh 183 = [] := by decide +kernel
theorem rc183 : pm_cl 11 = (pm_y 183).cls := by decide +kernel
theorem cl183_0 : ([(0, .aload_n 0, 1), (1, .iload_n 1, 2), (2, .invokevirtual 205, 5), (5, .aload_n 0, 6), (6, .iload_n 2, 7), (7, .ifCond .eq 8, 10), (10, .iload_n 2, 11), (11, .iconst 1, 12), (12, .if_icmp .ne 7, 15), (15, .iconst 1, 16), (16, .goto 4, 19), (19, .iconst 0, 20), (20, .invokevirtual 134, 23), (23, .aload_n 0, 24), (24, .getfield 19, 27), (27, .iload_n 1, 28), (28, .iload_n 2, 29), (29, .invokevirtual 236, 32), (32, .ireturn, 33)] : List (Nat × Instr × Nat)).all (fun q => decide (pm_code 183 q.1 = some q.2)) = true := by decide +kernel
theorem c183_0 : pm_code 183 0 = some (.aload_n 0, 1) := pm_of cl183_0 0 (q := (0, .aload_n 0, 1)) rfl
theorem c183_1 : pm_code 183 1 = some (.iload_n 1, 2) := pm_of cl183_0 1 (q := (1, .iload_n 1, 2)) rfl
theorem c183_2 : pm_code 183 2 = some (.invokevirtual 205, 5) := pm_of cl183_0 2 (q := (2, .invokevirtual 205, 5)) rfl
theorem c183_5 : pm_code 183 5 = some (.aload_n 0, 6) := pm_of cl183_0 3 (q := (5, .aload_n 0, 6)) rfl
theorem c183_6 : pm_code 183 6 = some (.iload_n 2, 7) := pm_of cl183_0 4 (q := (6, .iload_n 2, 7)) rfl
theorem c183_7 : pm_code 183 7 = some (.ifCond .eq 8, 10) := pm_of cl183_0 5 (q := (7, .ifCond .eq 8, 10)) rfl
theorem c183_10 : pm_code 183 10 = some (.iload_n 2, 11) := pm_of cl183_0 6 (q := (10, .iload_n 2, 11)) rfl
theorem c183_11 : pm_code 183 11 = some (.iconst 1, 12) := pm_of cl183_0 7 (q := (11, .iconst 1, 12)) rfl
theorem c183_12 : pm_code 183 12 = some (.if_icmp .ne 7, 15) := pm_of cl183_0 8 (q := (12, .if_icmp .ne 7, 15)) rfl
theorem c183_15 : pm_code 183 15 = some (.iconst 1, 16) := pm_of cl183_0 9 (q := (15, .iconst 1, 16)) rfl
theorem c183_16 : pm_code 183 16 = some (.goto 4, 19) := pm_of cl183_0 10 (q := (16, .goto 4, 19)) rfl
theorem c183_19 : pm_code 183 19 = some (.iconst 0, 20) := pm_of cl183_0 11 (q := (19, .iconst 0, 20)) rfl
theorem c183_20 : pm_code 183 20 = some (.invokevirtual 134, 23) := pm_of cl183_0 12 (q := (20, .invokevirtual 134, 23)) rfl
theorem c183_23 : pm_code 183 23 = some (.aload_n 0, 24) := pm_of cl183_0 13 (q := (23, .aload_n 0, 24)) rfl
theorem c183_24 : pm_code 183 24 = some (.getfield 19, 27) := pm_of cl183_0 14 (q := (24, .getfield 19, 27)) rfl
theorem c183_27 : pm_code 183 27 = some (.iload_n 1, 28) := pm_of cl183_0 15 (q := (27, .iload_n 1, 28)) rfl
theorem c183_28 : pm_code 183 28 = some (.iload_n 2, 29) := pm_of cl183_0 16 (q := (28, .iload_n 2, 29)) rfl
theorem c183_29 : pm_code 183 29 = some (.invokevirtual 236, 32) := pm_of cl183_0 17 (q := (29, .invokevirtual 236, 32)) rfl
theorem c183_32 : pm_code 183 32 = some (.ireturn, 33) := pm_of cl183_0 18 (q := (32, .ireturn, 33)) rfl
theorem k184 : pm_k 184 = 11 := by decide +kernel
theorem ml184 : pm_ml 184 = 2 := by decide +kernel
theorem rt184 : pm_rt 184 = (some .int) := by decide +kernel
theorem hh184 : pm_hh 184 = [] := by decide +kernel
theorem rc184 : pm_cl 11 = (pm_y 184).cls := by decide +kernel
theorem cl184_0 : ([(0, .aload_n 0, 1), (1, .iload_n 1, 2), (2, .invokevirtual 205, 5), (5, .aload_n 0, 6), (6, .getfield 19, 9), (9, .iload_n 1, 10), (10, .invokevirtual 239, 13), (13, .ireturn, 14)] : List (Nat × Instr × Nat)).all (fun q => decide (pm_code 184 q.1 = some q.2)) = true := by decide +kernel
theorem c184_0 : pm_code 184 0 = some (.aload_n 0, 1) := pm_of cl184_0 0 (q := (0, .aload_n 0, 1)) rfl
theorem c184_1 : pm_code 184 1 = some (.iload_n 1, 2) := pm_of cl184_0 1 (q := (1, .iload_n 1, 2)) rfl
theorem c184_2 : pm_code 184 2 = some (.invokevirtual 205, 5) := pm_of cl184_0 2 (q := (2, .invokevirtual 205, 5)) rfl
theorem c184_5 : pm_code 184 5 = some (.aload_n 0, 6) := pm_of cl184_0 3 (q := (5, .aload_n 0, 6)) rfl
theorem c184_6 : pm_code 184 6 = some (.getfield 19, 9) := pm_of cl184_0 4 (q := (6, .getfield 19, 9)) rfl
theorem c184_9 : pm_code 184 9 = some (.iload_n 1, 10) := pm_of cl184_0 5 (q := (9, .iload_n 1, 10)) rfl
theorem c184_10 : pm_code 184 10 = some (.invokevirtual 239, 13) := pm_of cl184_0 6 (q := (10, .invokevirtual 239, 13)) rfl
theorem c184_13 : pm_code 184 13 = some (.ireturn, 14) := pm_of cl184_0 7 (q := (13, .ireturn, 14)) rfl
theorem k185 : pm_k 185 = 11 := by decide +kernel
theorem ml185 : pm_ml 185 = 7 := by decide +kernel
theorem rt185 : pm_rt 185 = (some .int) := by decide +kernel
theorem hh185 : pm_hh 185 = [] := by decide +kernel
theorem rc185 : pm_cl 11 = (pm_y 185).cls := by decide +kernel
theorem cl185_0 : ([(0, .aload_n 0, 1), (1, .iload_n 1, 2), (2, .iconst 1, 3), (3, .if_icmp .lt 13, 6), (6, .iload_n 1, 7), (7, .bipush 9, 9), (9, .if_icmp .gt 7, 12), (12, .iconst 1, 13), (13, .goto 4, 16), (16, .iconst 0, 17), (17, .invokevirtual 134, 20), (20, .aload_n 0, 21), (21, .iload_n 2, 22), (22, .ifCond .lt 13, 25), (25, .iload_n 2, 26), (26, .bipush 99, 28), (28, .if_icmp .gt 7, 31), (31, .iconst 1, 32), (32, .goto 4, 35), (35, .iconst 0, 36), (36, .invokevirtual 134, 39), (39, .aload_n 0, 40), (40, .iload_n 3, 41), (41, .ifCond .lt 12, 44), (44, .iload_n 3, 45), (45, .iconst 5, 46), (46, .if_icmp .gt 7, 49), (49, .iconst 1, 50), (50, .goto 4, 53), (53, .iconst 0, 54), (54, .invokevirtual 134, 57), (57, .aload_n 0, 58), (58, .iload 4, 60), (60, .ifCond .lt 14, 63), (63, .iload 4, 65), (65, .bipush 99, 67), (67, .if_icmp .gt 7, 70), (70, .iconst 1, 71), (71, .goto 4, 74), (74, .iconst 0, 75)] : List (Nat × Instr × Nat)).all (fun q => decide (pm_code 185 q.1 = some q.2)) = true := by decide +kernel
theorem c185_0 : pm_code 185 0 = some (.aload_n 0, 1) := pm_of cl185_0 0 (q := (0, .aload_n 0, 1)) rfl
theorem c185_1 : pm_code 185 1 = some (.iload_n 1, 2) := pm_of cl185_0 1 (q := (1, .iload_n 1, 2)) rfl
theorem c185_2 : pm_code 185 2 = some (.iconst 1, 3) := pm_of cl185_0 2 (q := (2, .iconst 1, 3)) rfl
theorem c185_3 : pm_code 185 3 = some (.if_icmp .lt 13, 6) := pm_of cl185_0 3 (q := (3, .if_icmp .lt 13, 6)) rfl
theorem c185_6 : pm_code 185 6 = some (.iload_n 1, 7) := pm_of cl185_0 4 (q := (6, .iload_n 1, 7)) rfl
theorem c185_7 : pm_code 185 7 = some (.bipush 9, 9) := pm_of cl185_0 5 (q := (7, .bipush 9, 9)) rfl
theorem c185_9 : pm_code 185 9 = some (.if_icmp .gt 7, 12) := pm_of cl185_0 6 (q := (9, .if_icmp .gt 7, 12)) rfl
theorem c185_12 : pm_code 185 12 = some (.iconst 1, 13) := pm_of cl185_0 7 (q := (12, .iconst 1, 13)) rfl
theorem c185_13 : pm_code 185 13 = some (.goto 4, 16) := pm_of cl185_0 8 (q := (13, .goto 4, 16)) rfl
theorem c185_16 : pm_code 185 16 = some (.iconst 0, 17) := pm_of cl185_0 9 (q := (16, .iconst 0, 17)) rfl
theorem c185_17 : pm_code 185 17 = some (.invokevirtual 134, 20) := pm_of cl185_0 10 (q := (17, .invokevirtual 134, 20)) rfl
theorem c185_20 : pm_code 185 20 = some (.aload_n 0, 21) := pm_of cl185_0 11 (q := (20, .aload_n 0, 21)) rfl
theorem c185_21 : pm_code 185 21 = some (.iload_n 2, 22) := pm_of cl185_0 12 (q := (21, .iload_n 2, 22)) rfl
theorem c185_22 : pm_code 185 22 = some (.ifCond .lt 13, 25) := pm_of cl185_0 13 (q := (22, .ifCond .lt 13, 25)) rfl
theorem c185_25 : pm_code 185 25 = some (.iload_n 2, 26) := pm_of cl185_0 14 (q := (25, .iload_n 2, 26)) rfl
theorem c185_26 : pm_code 185 26 = some (.bipush 99, 28) := pm_of cl185_0 15 (q := (26, .bipush 99, 28)) rfl
theorem c185_28 : pm_code 185 28 = some (.if_icmp .gt 7, 31) := pm_of cl185_0 16 (q := (28, .if_icmp .gt 7, 31)) rfl
theorem c185_31 : pm_code 185 31 = some (.iconst 1, 32) := pm_of cl185_0 17 (q := (31, .iconst 1, 32)) rfl
theorem c185_32 : pm_code 185 32 = some (.goto 4, 35) := pm_of cl185_0 18 (q := (32, .goto 4, 35)) rfl
theorem c185_35 : pm_code 185 35 = some (.iconst 0, 36) := pm_of cl185_0 19 (q := (35, .iconst 0, 36)) rfl
theorem c185_36 : pm_code 185 36 = some (.invokevirtual 134, 39) := pm_of cl185_0 20 (q := (36, .invokevirtual 134, 39)) rfl
theorem c185_39 : pm_code 185 39 = some (.aload_n 0, 40) := pm_of cl185_0 21 (q := (39, .aload_n 0, 40)) rfl
theorem c185_40 : pm_code 185 40 = some (.iload_n 3, 41) := pm_of cl185_0 22 (q := (40, .iload_n 3, 41)) rfl
theorem c185_41 : pm_code 185 41 = some (.ifCond .lt 12, 44) := pm_of cl185_0 23 (q := (41, .ifCond .lt 12, 44)) rfl
theorem c185_44 : pm_code 185 44 = some (.iload_n 3, 45) := pm_of cl185_0 24 (q := (44, .iload_n 3, 45)) rfl
theorem c185_45 : pm_code 185 45 = some (.iconst 5, 46) := pm_of cl185_0 25 (q := (45, .iconst 5, 46)) rfl
theorem c185_46 : pm_code 185 46 = some (.if_icmp .gt 7, 49) := pm_of cl185_0 26 (q := (46, .if_icmp .gt 7, 49)) rfl
theorem c185_49 : pm_code 185 49 = some (.iconst 1, 50) := pm_of cl185_0 27 (q := (49, .iconst 1, 50)) rfl
theorem c185_50 : pm_code 185 50 = some (.goto 4, 53) := pm_of cl185_0 28 (q := (50, .goto 4, 53)) rfl
theorem c185_53 : pm_code 185 53 = some (.iconst 0, 54) := pm_of cl185_0 29 (q := (53, .iconst 0, 54)) rfl
theorem c185_54 : pm_code 185 54 = some (.invokevirtual 134, 57) := pm_of cl185_0 30 (q := (54, .invokevirtual 134, 57)) rfl
theorem c185_57 : pm_code 185 57 = some (.aload_n 0, 58) := pm_of cl185_0 31 (q := (57, .aload_n 0, 58)) rfl
theorem c185_58 : pm_code 185 58 = some (.iload 4, 60) := pm_of cl185_0 32 (q := (58, .iload 4, 60)) rfl
theorem c185_60 : pm_code 185 60 = some (.ifCond .lt 14, 63) := pm_of cl185_0 33 (q := (60, .ifCond .lt 14, 63)) rfl
theorem c185_63 : pm_code 185 63 = some (.iload 4, 65) := pm_of cl185_0 34 (q := (63, .iload 4, 65)) rfl
theorem c185_65 : pm_code 185 65 = some (.bipush 99, 67) := pm_of cl185_0 35 (q := (65, .bipush 99, 67)) rfl
theorem c185_67 : pm_code 185 67 = some (.if_icmp .gt 7, 70) := pm_of cl185_0 36 (q := (67, .if_icmp .gt 7, 70)) rfl
theorem c185_70 : pm_code 185 70 = some (.iconst 1, 71) := pm_of cl185_0 37 (q := (70, .iconst 1, 71)) rfl
theorem c185_71 : pm_code 185 71 = some (.goto 4, 74) := pm_of cl185_0 38 (q := (71, .goto 4, 74)) rfl
theorem c185_74 : pm_code 185 74 = some (.iconst 0, 75) := pm_of cl185_0 39 (q := (74, .iconst 0, 75)) rfl
theorem cl185_1 : ([(75, .invokevirtual 134, 78), (78, .aload_n 0, 79), (79, .iload 5, 81), (81, .ifCond .eq 9, 84), (84, .iload 5, 86), (86, .iconst 1, 87), (87, .if_icmp .ne 7, 90), (90, .iconst 1, 91), (91, .goto 4, 94), (94, .iconst 0, 95), (95, .invokevirtual 134, 98), (98, .aload_n 0, 99), (99, .iload 6, 101), (101, .ifCond .lt 15, 104), (104, .iload 6, 106), (106, .sipush 900, 109), (109, .if_icmp .gt 7, 112), (112, .iconst 1, 113), (113, .goto 4, 116), (116, .iconst 0, 117), (117, .invokevirtual 134, 120), (120, .aload_n 0, 121), (121, .getfield 19, 124), (124, .iload_n 1, 125), (125, .iload_n 2, 126), (126, .iload_n 3, 127), (127, .iload 4, 129), (129, .iload 5, 131), (131, .iload 6, 133), (133, .invokevirtual 242, 136), (136, .ireturn, 137)] : List (Nat × Instr × Nat)).all (fun q => decide (pm_code 185 q.1 = some q.2)) = true := by decide +kernel
theorem c185_75 : pm_code 185 75 = some (.invokevirtual 134, 78) := pm_of cl185_1 0 (q := (75, .invokevirtual 134, 78)) rfl
theorem c185_78 : pm_code 185 78 = some (.aload_n 0, 79) := pm_of cl185_1 1 (q := (78, .aload_n 0, 79)) rfl
theorem c185_79 : pm_code 185 79 = some (.iload 5, 81) := pm_of cl185_1 2 (q := (79, .iload 5, 81)) rfl
theorem c185_81 : pm_code 185 81 = some (.ifCond .eq 9, 84) := pm_of cl185_1 3 (q := (81, .ifCond .eq 9, 84)) rfl
theorem c185_84 : pm_code 185 84 = some (.iload 5, 86) := pm_of cl185_1 4 (q := (84, .iload 5, 86)) rfl
theorem c185_86 : pm_code 185 86 = some (.iconst 1, 87) := pm_of cl185_1 5 (q := (86, .iconst 1, 87)) rfl
theorem c185_87 : pm_code 185 87 = some (.if_icmp .ne 7, 90) := pm_of cl185_1 6 (q := (87, .if_icmp .ne 7, 90)) rfl
theorem c185_90 : pm_code 185 90 = some (.iconst 1, 91) := pm_of cl185_1 7 (q := (90, .iconst 1, 91)) rfl
theorem c185_91 : pm_code 185 91 = some (.goto 4, 94) := pm_of cl185_1 8 (q := (91, .goto 4, 94)) rfl
theorem c185_94 : pm_code 185 94 = some (.iconst 0, 95) := pm_of cl185_1 9 (q := (94, .iconst 0, 95)) rfl
theorem c185_95 : pm_code 185 95 = some (.invokevirtual 134, 98) := pm_of cl185_1 10 (q := (95, .invokevirtual 134, 98)) rfl
theorem c185_98 : pm_code 185 98 = some (.aload_n 0, 99) := pm_of cl185_1 11 (q := (98, .aload_n 0, 99)) rfl
theorem c185_99 : pm_code 185 99 = some (.iload 6, 101) := pm_of cl185_1 12 (q := (99, .iload 6, 101)) rfl
theorem c185_101 : pm_code 185 101 = some (.ifCond .lt 15, 104) := pm_of cl185_1 13 (q := (101, .ifCond .lt 15, 104)) rfl
theorem c185_104 : pm_code 185 104 = some (.iload 6, 106) := pm_of cl185_1 14 (q := (104, .iload 6, 106)) rfl
theorem c185_106 : pm_code 185 106 = some (.sipush 900, 109) := pm_of cl185_1 15 (q := (106, .sipush 900, 109)) rfl
theorem c185_109 : pm_code 185 109 = some (.if_icmp .gt 7, 112) := pm_of cl185_1 16 (q := (109, .if_icmp .gt 7, 112)) rfl
theorem c185_112 : pm_code 185 112 = some (.iconst 1, 113) := pm_of cl185_1 17 (q := (112, .iconst 1, 113)) rfl
theorem c185_113 : pm_code 185 113 = some (.goto 4, 116) := pm_of cl185_1 18 (q := (113, .goto 4, 116)) rfl
theorem c185_116 : pm_code 185 116 = some (.iconst 0, 117) := pm_of cl185_1 19 (q := (116, .iconst 0, 117)) rfl
theorem c185_117 : pm_code 185 117 = some (.invokevirtual 134, 120) := pm_of cl185_1 20 (q := (117, .invokevirtual 134, 120)) rfl
theorem c185_120 : pm_code 185 120 = some (.aload_n 0, 121) := pm_of cl185_1 21 (q := (120, .aload_n 0, 121)) rfl
theorem c185_121 : pm_code 185 121 = some (.getfield 19, 124) := pm_of cl185_1 22 (q := (121, .getfield 19, 124)) rfl
theorem c185_124 : pm_code 185 124 = some (.iload_n 1, 125) := pm_of cl185_1 23 (q := (124, .iload_n 1, 125)) rfl
theorem c185_125 : pm_code 185 125 = some (.iload_n 2, 126) := pm_of cl185_1 24 (q := (125, .iload_n 2, 126)) rfl
theorem c185_126 : pm_code 185 126 = some (.iload_n 3, 127) := pm_of cl185_1 25 (q := (126, .iload_n 3, 127)) rfl
theorem c185_127 : pm_code 185 127 = some (.iload 4, 129) := pm_of cl185_1 26 (q := (127, .iload 4, 129)) rfl
theorem c185_129 : pm_code 185 129 = some (.iload 5, 131) := pm_of cl185_1 27 (q := (129, .iload 5, 131)) rfl
theorem c185_131 : pm_code 185 131 = some (.iload 6, 133) := pm_of cl185_1 28 (q := (131, .iload 6, 133)) rfl
theorem c185_133 : pm_code 185 133 = some (.invokevirtual 242, 136) := pm_of cl185_1 29 (q := (133, .invokevirtual 242, 136)) rfl
theorem c185_136 : pm_code 185 136 = some (.ireturn, 137) := pm_of cl185_1 30 (q := (136, .ireturn, 137)) rfl
theorem k186 : pm_k 186 = 11 := by decide +kernel
theorem ml186 : pm_ml 186 = 2 := by decide +kernel
theorem rt186 : pm_rt 186 = (some .int) := by decide +kernel
theorem hh186 : pm_hh 186 = [] := by decide +kernel
theorem rc186 : pm_cl 11 = (pm_y 186).cls := by decide +kernel
theorem cl186_0 : ([(0, .aload_n 0, 1), (1, .iload_n 1, 2), (2, .invokevirtual 205, 5), (5, .aload_n 0, 6), (6, .getfield 19, 9), (9, .iload_n 1, 10), (10, .iconst 0, 11), (11, .sipush 600, 14), (14, .invokevirtual 249, 17), (17, .ireturn, 18)] : List (Nat × Instr × Nat)).all (fun q => decide (pm_code 186 q.1 = some q.2)) = true := by decide +kernel
theorem c186_0 : pm_code 186 0 = some (.aload_n 0, 1) := pm_of cl186_0 0 (q := (0, .aload_n 0, 1)) rfl
theorem c186_1 : pm_code 186 1 = some (.iload_n 1, 2) := pm_of cl186_0 1 (q := (1, .iload_n 1, 2)) rfl
theorem c186_2 : pm_code 186 2 = some (.invokevirtual 205, 5) := pm_of cl186_0 2 (q := (2, .invokevirtual 205, 5)) rfl
theorem c186_5 : pm_code 186 5 = some (.aload_n 0, 6) := pm_of cl186_0 3 (q := (5, .aload_n 0, 6)) rfl
theorem c186_6 : pm_code 186 6 = some (.getfield 19, 9) := pm_of cl186_0 4 (q := (6, .getfield 19, 9)) rfl
theorem c186_9 : pm_code 186 9 = some (.iload_n 1, 10) := pm_of cl186_0 5 (q := (9, .iload_n 1, 10)) rfl
theorem c186_10 : pm_code 186 10 = some (.iconst 0, 11) := pm_of cl186_0 6 (q := (10, .iconst 0, 11)) rfl
theorem c186_11 : pm_code 186 11 = some (.sipush 600, 14) := pm_of cl186_0 7 (q := (11, .sipush 600, 14)) rfl
theorem c186_14 : pm_code 186 14 = some (.invokevirtual 249, 17) := pm_of cl186_0 8 (q := (14, .invokevirtual 249, 17)) rfl
theorem c186_17 : pm_code 186 17 = some (.ireturn, 18) := pm_of cl186_0 9 (q := (17, .ireturn, 18)) rfl
theorem k187 : pm_k 187 = 11 := by decide +kernel
theorem ml187 : pm_ml 187 = 2 := by decide +kernel
theorem rt187 : pm_rt 187 = (some .int) := by decide +kernel
theorem hh187 : pm_hh 187 = [] := by decide +kernel
theorem rc187 : pm_cl 11 = (pm_y 187).cls := by decide +kernel
theorem cl187_0 : ([(0, .aload_n 0, 1), (1, .iload_n 1, 2), (2, .invokevirtual 205, 5), (5, .aload_n 0, 6), (6, .getfield 19, 9), (9, .iload_n 1, 10), (10, .iconst 1, 11), (11, .sipush 600, 14), (14, .invokevirtual 249, 17), (17, .ireturn, 18)] : List (Nat × Instr × Nat)).all (fun q => decide (pm_code 187 q.1 = some q.2)) = true := by decide +kernel
theorem c187_0 : pm_code 187 0 = some (.aload_n 0, 1) := pm_of cl187_0 0 (q := (0, .aload_n 0, 1)) rfl
theorem c187_1 : pm_code 187 1 = some (.iload_n 1, 2) := pm_of cl187_0 1 (q := (1, .iload_n 1, 2)) rfl
theorem c187_2 : pm_code 187 2 = some (.invokevirtual 205, 5) := pm_of cl187_0 2 (q := (2, .invokevirtual 205, 5)) rfl
theorem c187_5 : pm_code 187 5 = some (.aload_n 0, 6) := pm_of cl187_0 3 (q := (5, .aload_n 0, 6)) rfl
theorem c187_6 : pm_code 187 6 = some (.getfield 19, 9) := pm_of cl187_0 4 (q := (6, .getfield 19, 9)) rfl
theorem c187_9 : pm_code 187 9 = some (.iload_n 1, 10) := pm_of cl187_0 5 (q := (9, .iload_n 1, 10)) rfl
theorem c187_10 : pm_code 187 10 = some (.iconst 1, 11) := pm_of cl187_0 6 (q := (10, .iconst 1, 11)) rfl
theorem c187_11 : pm_code 187 11 = some (.sipush 600, 14) := pm_of cl187_0 7 (q := (11, .sipush 600, 14)) rfl
theorem c187_14 : pm_code 187 14 = some (.invokevirtual 249, 17) := pm_of cl187_0 8 (q := (14, .invokevirtual 249, 17)) rfl
theorem c187_17 : pm_code 187 17 = some (.ireturn, 18) := pm_of cl187_0 9 (q := (17, .ireturn, 18)) rfl
theorem k188 : pm_k 188 = 11 := by decide +kernel
theorem ml188 : pm_ml 188 = 3 := by decide +kernel
theorem rt188 : pm_rt 188 = (some .int) := by decide +kernel
theorem hh188 : pm_hh 188 = [] := by decide +kernel
theorem rc188 : pm_cl 11 = (pm_y 188).cls := by decide +kernel
theorem cl188_0 : ([(0, .aload_n 0, 1), (1, .iload_n 1, 2), (2, .ifCond .lt 14, 5), (5, .iload_n 1, 6), (6, .sipush 600, 9), (9, .if_icmp .gt 7, 12), (12, .iconst 1, 13), (13, .goto 4, 16), (16, .iconst 0, 17), (17, .invokevirtual 134, 20), (20, .aload_n 0, 21), (21, .iload_n 2, 22), (22, .ifCond .lt 12, 25), (25, .iload_n 2, 26), (26, .iconst 2, 27), (27, .if_icmp .gt 7, 30), (30, .iconst 1, 31), (31, .goto 4, 34), (34, .iconst 0, 35), (35, .invokevirtual 134, 38), (38, .iload_n 2, 39), (39, .lookupswitch 43 #[(0, 25), (1, 34)], 64), (64, .aload_n 0, 65), (65, .getfield 19, 68), (68, .iload_n 1, 69), (69, .invokevirtual 253, 72), (72, .ireturn, 73), (73, .aload_n 0, 74), (74, .getfield 19, 77), (77, .iload_n 1, 78), (78, .invokevirtual 256, 81), (81, .ireturn, 82), (82, .iconst 0, 83), (83, .aload_n 0, 84), (84, .getfield 19, 87), (87, .iconst 0, 88), (88, .invokevirtual 198, 91), (91, .iload_n 1, 92), (92, .imul, 93), (93, .aload_n 0, 94)] : List (Nat × Instr × Nat)).all (fun q => decide (pm_code 188 q.1 = some q.2)) = true := by decide +kernel
theorem c188_0 : pm_code 188 0 = some (.aload_n 0, 1) := pm_of cl188_0 0 (q := (0, .aload_n 0, 1)) rfl
theorem c188_1 : pm_code 188 1 = some (.iload_n 1, 2) := pm_of cl188_0 1 (q := (1, .iload_n 1, 2)) rfl
theorem c188_2 : pm_code 188 2 = some (.ifCond .lt 14, 5) := pm_of cl188_0 2 (q := (2, .ifCond .lt 14, 5)) rfl
theorem c188_5 : pm_code 188 5 = some (.iload_n 1, 6) := pm_of cl188_0 3 (q := (5, .iload_n 1, 6)) rfl
theorem c188_6 : pm_code 188 6 = some (.sipush 600, 9) := pm_of cl188_0 4 (q := (6, .sipush 600, 9)) rfl
theorem c188_9 : pm_code 188 9 = some (.if_icmp .gt 7, 12) := pm_of cl188_0 5 (q := (9, .if_icmp .gt 7, 12)) rfl
theorem c188_12 : pm_code 188 12 = some (.iconst 1, 13) := pm_of cl188_0 6 (q := (12, .iconst 1, 13)) rfl
theorem c188_13 : pm_code 188 13 = some (.goto 4, 16) := pm_of cl188_0 7 (q := (13, .goto 4, 16)) rfl
theorem c188_16 : pm_code 188 16 = some (.iconst 0, 17) := pm_of cl188_0 8 (q := (16, .iconst 0, 17)) rfl
theorem c188_17 : pm_code 188 17 = some (.invokevirtual 134, 20) := pm_of cl188_0 9 (q := (17, .invokevirtual 134, 20)) rfl
theorem c188_20 : pm_code 188 20 = some (.aload_n 0, 21) := pm_of cl188_0 10 (q := (20, .aload_n 0, 21)) rfl
theorem c188_21 : pm_code 188 21 = some (.iload_n 2, 22) := pm_of cl188_0 11 (q := (21, .iload_n 2, 22)) rfl
theorem c188_22 : pm_code 188 22 = some (.ifCond .lt 12, 25) := pm_of cl188_0 12 (q := (22, .ifCond .lt 12, 25)) rfl
theorem c188_25 : pm_code 188 25 = some (.iload_n 2, 26) := pm_of cl188_0 13 (q := (25, .iload_n 2, 26)) rfl
theorem c188_26 : pm_code 188 26 = some (.iconst 2, 27) := pm_of cl188_0 14 (q := (26, .iconst 2, 27)) rfl
theorem c188_27 : pm_code 188 27 = some (.if_icmp .gt 7, 30) := pm_of cl188_0 15 (q := (27, .if_icmp .gt 7, 30)) rfl
theorem c188_30 : pm_code 188 30 = some (.iconst 1, 31) := pm_of cl188_0 16 (q := (30, .iconst 1, 31)) rfl
theorem c188_31 : pm_code 188 31 = some (.goto 4, 34) := pm_of cl188_0 17 (q := (31, .goto 4, 34)) rfl
theorem c188_34 : pm_code 188 34 = some (.iconst 0, 35) := pm_of cl188_0 18 (q := (34, .iconst 0, 35)) rfl
theorem c188_35 : pm_code 188 35 = some (.invokevirtual 134, 38) := pm_of cl188_0 19 (q := (35, .invokevirtual 134, 38)) rfl
theorem c188_38 : pm_code 188 38 = some (.iload_n 2, 39) := pm_of cl188_0 20 (q := (38, .iload_n 2, 39)) rfl
theorem c188_39 : pm_code 188 39 = some (.lookupswitch 43 #[(0, 25), (1, 34)], 64) := pm_of cl188_0 21 (q := (39, .lookupswitch 43 #[(0, 25), (1, 34)], 64)) rfl
theorem c188_64 : pm_code 188 64 = some (.aload_n 0, 65) := pm_of cl188_0 22 (q := (64, .aload_n 0, 65)) rfl
theorem c188_65 : pm_code 188 65 = some (.getfield 19, 68) := pm_of cl188_0 23 (q := (65, .getfield 19, 68)) rfl
theorem c188_68 : pm_code 188 68 = some (.iload_n 1, 69) := pm_of cl188_0 24 (q := (68, .iload_n 1, 69)) rfl
theorem c188_69 : pm_code 188 69 = some (.invokevirtual 253, 72) := pm_of cl188_0 25 (q := (69, .invokevirtual 253, 72)) rfl
theorem c188_72 : pm_code 188 72 = some (.ireturn, 73) := pm_of cl188_0 26 (q := (72, .ireturn, 73)) rfl
theorem c188_73 : pm_code 188 73 = some (.aload_n 0, 74) := pm_of cl188_0 27 (q := (73, .aload_n 0, 74)) rfl
theorem c188_74 : pm_code 188 74 = some (.getfield 19, 77) := pm_of cl188_0 28 (q := (74, .getfield 19, 77)) rfl
theorem c188_77 : pm_code 188 77 = some (.iload_n 1, 78) := pm_of cl188_0 29 (q := (77, .iload_n 1, 78)) rfl
theorem c188_78 : pm_code 188 78 = some (.invokevirtual 256, 81) := pm_of cl188_0 30 (q := (78, .invokevirtual 256, 81)) rfl
theorem c188_81 : pm_code 188 81 = some (.ireturn, 82) := pm_of cl188_0 31 (q := (81, .ireturn, 82)) rfl
theorem c188_82 : pm_code 188 82 = some (.iconst 0, 83) := pm_of cl188_0 32 (q := (82, .iconst 0, 83)) rfl
theorem c188_83 : pm_code 188 83 = some (.aload_n 0, 84) := pm_of cl188_0 33 (q := (83, .aload_n 0, 84)) rfl
theorem c188_84 : pm_code 188 84 = some (.getfield 19, 87) := pm_of cl188_0 34 (q := (84, .getfield 19, 87)) rfl
theorem c188_87 : pm_code 188 87 = some (.iconst 0, 88) := pm_of cl188_0 35 (q := (87, .iconst 0, 88)) rfl
theorem c188_88 : pm_code 188 88 = some (.invokevirtual 198, 91) := pm_of cl188_0 36 (q := (88, .invokevirtual 198, 91)) rfl
theorem c188_91 : pm_code 188 91 = some (.iload_n 1, 92) := pm_of cl188_0 37 (q := (91, .iload_n 1, 92)) rfl
theorem c188_92 : pm_code 188 92 = some (.imul, 93) := pm_of cl188_0 38 (q := (92, .imul, 93)) rfl
theorem c188_93 : pm_code 188 93 = some (.aload_n 0, 94) := pm_of cl188_0 39 (q := (93, .aload_n 0, 94)) rfl
theorem cl188_1 : ([(94, .getfield 19, 97), (97, .invokevirtual 156, 100), (100, .invokevirtual 195, 103), (103, .isub, 104), (104, .invokestatic 259, 107), (107, .ireturn, 108)] : List (Nat × Instr × Nat)).all (fun q => decide (pm_code 188 q.1 = some q.2)) = true := by decide +kernel
theorem c188_94 : pm_code 188 94 = some (.getfield 19, 97) := pm_of cl188_1 0 (q := (94, .getfield 19, 97)) rfl
theorem c188_97 : pm_code 188 97 = some (.invokevirtual 156, 100) := pm_of cl188_1 1 (q := (97, .invokevirtual 156, 100)) rfl
theorem c188_100 : pm_code 188 100 = some (.invokevirtual 195, 103) := pm_of cl188_1 2 (q := (100, .invokevirtual 195, 103)) rfl
theorem c188_103 : pm_code 188 103 = some (.isub, 104) := pm_of cl188_1 3 (q := (103, .isub, 104)) rfl
theorem c188_104 : pm_code 188 104 = some (.invokestatic 259, 107) := pm_of cl188_1 4 (q := (104, .invokestatic 259, 107)) rfl
theorem c188_107 : pm_code 188 107 = some (.ireturn, 108) := pm_of cl188_1 5 (q := (107, .ireturn, 108)) rfl
theorem k189 : pm_k 189 = 11 := by decide +kernel
theorem ml189 : pm_ml 189 = 3 := by decide +kernel
theorem rt189 : pm_rt 189 = (some .int) := by decide +kernel
theorem hh189 : pm_hh 189 = [] := by decide +kernel
theorem rc189 : pm_cl 11 = (pm_y 189).cls := by decide +kernel
theorem cl189_0 : ([(0, .aload_n 0, 1), (1, .iload_n 1, 2), (2, .invokevirtual 221, 5), (5, .aload_n 0, 6), (6, .iload_n 2, 7), (7, .invokevirtual 205, 10), (10, .aload_n 0, 11), (11, .getfield 19, 14), (14, .iload_n 2, 15), (15, .aload_n 0, 16), (16, .getfield 19, 19), (19, .iload_n 2, 20), (20, .invokevirtual 239, 23), (23, .iload_n 1, 24), (24, .invokevirtual 264, 27), (27, .ireturn, 28)] : List (Nat × Instr × Nat)).all (fun q => decide (pm_code 189 q.1 = some q.2)) = true := by decide +kernel
theorem c189_0 : pm_code 189 0 = some (.aload_n 0, 1) := pm_of cl189_0 0 (q := (0, .aload_n 0, 1)) rfl
theorem c189_1 : pm_code 189 1 = some (.iload_n 1, 2) := pm_of cl189_0 1 (q := (1, .iload_n 1, 2)) rfl
theorem c189_2 : pm_code 189 2 = some (.invokevirtual 221, 5) := pm_of cl189_0 2 (q := (2, .invokevirtual 221, 5)) rfl
theorem c189_5 : pm_code 189 5 = some (.aload_n 0, 6) := pm_of cl189_0 3 (q := (5, .aload_n 0, 6)) rfl
theorem c189_6 : pm_code 189 6 = some (.iload_n 2, 7) := pm_of cl189_0 4 (q := (6, .iload_n 2, 7)) rfl
theorem c189_7 : pm_code 189 7 = some (.invokevirtual 205, 10) := pm_of cl189_0 5 (q := (7, .invokevirtual 205, 10)) rfl
theorem c189_10 : pm_code 189 10 = some (.aload_n 0, 11) := pm_of cl189_0 6 (q := (10, .aload_n 0, 11)) rfl
theorem c189_11 : pm_code 189 11 = some (.getfield 19, 14) := pm_of cl189_0 7 (q := (11, .getfield 19, 14)) rfl
theorem c189_14 : pm_code 189 14 = some (.iload_n 2, 15) := pm_of cl189_0 8 (q := (14, .iload_n 2, 15)) rfl
theorem c189_15 : pm_code 189 15 = some (.aload_n 0, 16) := pm_of cl189_0 9 (q := (15, .aload_n 0, 16)) rfl
theorem c189_16 : pm_code 189 16 = some (.getfield 19, 19) := pm_of cl189_0 10 (q := (16, .getfield 19, 19)) rfl
theorem c189_19 : pm_code 189 19 = some (.iload_n 2, 20) := pm_of cl189_0 11 (q := (19, .iload_n 2, 20)) rfl
theorem c189_20 : pm_code 189 20 = some (.invokevirtual 239, 23) := pm_of cl189_0 12 (q := (20, .invokevirtual 239, 23)) rfl
theorem c189_23 : pm_code 189 23 = some (.iload_n 1, 24) := pm_of cl189_0 13 (q := (23, .iload_n 1, 24)) rfl
theorem c189_24 : pm_code 189 24 = some (.invokevirtual 264, 27) := pm_of cl189_0 14 (q := (24, .invokevirtual 264, 27)) rfl
theorem c189_27 : pm_code 189 27 = some (.ireturn, 28) := pm_of cl189_0 15 (q := (27, .ireturn, 28)) rfl
theorem k190 : pm_k 190 = 11 := by decide +kernel
theorem ml190 : pm_ml 190 = 2 := by decide +kernel
theorem rt190 : pm_rt 190 = (some .int) := by decide +kernel
theorem hh190 : pm_hh 190 = [] := by decide +kernel
theorem rc190 : pm_cl 11 = (pm_y 190).cls := by decide +kernel
theorem cl190_0 : ([(0, .aload_n 0, 1), (1, .iload_n 1, 2), (2, .ifCond .eq 8, 5), (5, .iload_n 1, 6), (6, .iconst 1, 7), (7, .if_icmp .ne 7, 10), (10, .iconst 1, 11), (11, .goto 4, 14), (14, .iconst 0, 15), (15, .invokevirtual 134, 18), (18, .aload_n 0, 19), (19, .getfield 54, 22), (22, .aload_n 0, 23), (23, .getfield 19, 26), (26, .invokevirtual 267, 29), (29, .iload_n 1, 30), (30, .ifCond .ne 13, 33), (33, .aload_n 0, 34), (34, .getfield 54, 37), (37, .invokevirtual 271, 40), (40, .goto 10, 43), (43, .aload_n 0, 44), (44, .getfield 54, 47), (47, .invokevirtual 274, 50), (50, .ireturn, 51)] : List (Nat × Instr × Nat)).all (fun q => decide (pm_code 190 q.1 = some q.2)) = true := by decide +kernel
theorem c190_0 : pm_code 190 0 = some (.aload_n 0, 1) := pm_of cl190_0 0 (q := (0, .aload_n 0, 1)) rfl
theorem c190_1 : pm_code 190 1 = some (.iload_n 1, 2) := pm_of cl190_0 1 (q := (1, .iload_n 1, 2)) rfl
theorem c190_2 : pm_code 190 2 = some (.ifCond .eq 8, 5) := pm_of cl190_0 2 (q := (2, .ifCond .eq 8, 5)) rfl
theorem c190_5 : pm_code 190 5 = some (.iload_n 1, 6) := pm_of cl190_0 3 (q := (5, .iload_n 1, 6)) rfl
theorem c190_6 : pm_code 190 6 = some (.iconst 1, 7) := pm_of cl190_0 4 (q := (6, .iconst 1, 7)) rfl
theorem c190_7 : pm_code 190 7 = some (.if_icmp .ne 7, 10) := pm_of cl190_0 5 (q := (7, .if_icmp .ne 7, 10)) rfl
theorem c190_10 : pm_code 190 10 = some (.iconst 1, 11) := pm_of cl190_0 6 (q := (10, .iconst 1, 11)) rfl
theorem c190_11 : pm_code 190 11 = some (.goto 4, 14) := pm_of cl190_0 7 (q := (11, .goto 4, 14)) rfl
theorem c190_14 : pm_code 190 14 = some (.iconst 0, 15) := pm_of cl190_0 8 (q := (14, .iconst 0, 15)) rfl
theorem c190_15 : pm_code 190 15 = some (.invokevirtual 134, 18) := pm_of cl190_0 9 (q := (15, .invokevirtual 134, 18)) rfl
theorem c190_18 : pm_code 190 18 = some (.aload_n 0, 19) := pm_of cl190_0 10 (q := (18, .aload_n 0, 19)) rfl
theorem c190_19 : pm_code 190 19 = some (.getfield 54, 22) := pm_of cl190_0 11 (q := (19, .getfield 54, 22)) rfl
theorem c190_22 : pm_code 190 22 = some (.aload_n 0, 23) := pm_of cl190_0 12 (q := (22, .aload_n 0, 23)) rfl
theorem c190_23 : pm_code 190 23 = some (.getfield 19, 26) := pm_of cl190_0 13 (q := (23, .getfield 19, 26)) rfl
theorem c190_26 : pm_code 190 26 = some (.invokevirtual 267, 29) := pm_of cl190_0 14 (q := (26, .invokevirtual 267, 29)) rfl
theorem c190_29 : pm_code 190 29 = some (.iload_n 1, 30) := pm_of cl190_0 15 (q := (29, .iload_n 1, 30)) rfl
theorem c190_30 : pm_code 190 30 = some (.ifCond .ne 13, 33) := pm_of cl190_0 16 (q := (30, .ifCond .ne 13, 33)) rfl
theorem c190_33 : pm_code 190 33 = some (.aload_n 0, 34) := pm_of cl190_0 17 (q := (33, .aload_n 0, 34)) rfl
theorem c190_34 : pm_code 190 34 = some (.getfield 54, 37) := pm_of cl190_0 18 (q := (34, .getfield 54, 37)) rfl
theorem c190_37 : pm_code 190 37 = some (.invokevirtual 271, 40) := pm_of cl190_0 19 (q := (37, .invokevirtual 271, 40)) rfl
theorem c190_40 : pm_code 190 40 = some (.goto 10, 43) := pm_of cl190_0 20 (q := (40, .goto 10, 43)) rfl
theorem c190_43 : pm_code 190 43 = some (.aload_n 0, 44) := pm_of cl190_0 21 (q := (43, .aload_n 0, 44)) rfl
theorem c190_44 : pm_code 190 44 = some (.getfield 54, 47) := pm_of cl190_0 22 (q := (44, .getfield 54, 47)) rfl
theorem c190_47 : pm_code 190 47 = some (.invokevirtual 274, 50) := pm_of cl190_0 23 (q := (47, .invokevirtual 274, 50)) rfl
theorem c190_50 : pm_code 190 50 = some (.ireturn, 51) := pm_of cl190_0 24 (q := (50, .ireturn, 51)) rfl
theorem k191 : pm_k 191 = 11 := by decide +kernel
theorem ml191 : pm_ml 191 = 2 := by decide +kernel
theorem rt191 : pm_rt 191 = (some .int) := by decide +kernel
theorem hh191 : pm_hh 191 = [] := by decide +kernel
theorem rc191 : pm_cl 11 = (pm_y 191).cls := by decide +kernel
theorem cl191_0 : ([(0, .aload_n 0, 1), (1, .iload_n 1, 2), (2, .invokevirtual 205, 5), (5, .aload_n 0, 6), (6, .getfield 54, 9), (9, .aload_n 0, 10), (10, .getfield 19, 13), (13, .invokevirtual 267, 16), (16, .aload_n 0, 17), (17, .getfield 54, 20), (20, .iload_n 1, 21), (21, .invokevirtual 277, 24), (24, .ireturn, 25)] : List (Nat × Instr × Nat)).all (fun q => decide (pm_code 191 q.1 = some q.2)) = true := by decide +kernel
theorem c191_0 : pm_code 191 0 = some (.aload_n 0, 1) := pm_of cl191_0 0 (q := (0, .aload_n 0, 1)) rfl
theorem c191_1 : pm_code 191 1 = some (.iload_n 1, 2) := pm_of cl191_0 1 (q := (1, .iload_n 1, 2)) rfl
theorem c191_2 : pm_code 191 2 = some (.invokevirtual 205, 5) := pm_of cl191_0 2 (q := (2, .invokevirtual 205, 5)) rfl
theorem c191_5 : pm_code 191 5 = some (.aload_n 0, 6) := pm_of cl191_0 3 (q := (5, .aload_n 0, 6)) rfl
theorem c191_6 : pm_code 191 6 = some (.getfield 54, 9) := pm_of cl191_0 4 (q := (6, .getfield 54, 9)) rfl
theorem c191_9 : pm_code 191 9 = some (.aload_n 0, 10) := pm_of cl191_0 5 (q := (9, .aload_n 0, 10)) rfl
theorem c191_10 : pm_code 191 10 = some (.getfield 19, 13) := pm_of cl191_0 6 (q := (10, .getfield 19, 13)) rfl
theorem c191_13 : pm_code 191 13 = some (.invokevirtual 267, 16) := pm_of cl191_0 7 (q := (13, .invokevirtual 267, 16)) rfl
theorem c191_16 : pm_code 191 16 = some (.aload_n 0, 17) := pm_of cl191_0 8 (q := (16, .aload_n 0, 17)) rfl
theorem c191_17 : pm_code 191 17 = some (.getfield 54, 20) := pm_of cl191_0 9 (q := (17, .getfield 54, 20)) rfl
theorem c191_20 : pm_code 191 20 = some (.iload_n 1, 21) := pm_of cl191_0 10 (q := (20, .iload_n 1, 21)) rfl
theorem c191_21 : pm_code 191 21 = some (.invokevirtual 277, 24) := pm_of cl191_0 11 (q := (21, .invokevirtual 277, 24)) rfl
theorem c191_24 : pm_code 191 24 = some (.ireturn, 25) := pm_of cl191_0 12 (q := (24, .ireturn, 25)) rfl
theorem k192 : pm_k 192 = 11 := by decide +kernel
theorem ml192 : pm_ml 192 = 2 := by decide +kernel
theorem rt192 : pm_rt 192 = (some .int) := by decide +kernel
theorem hh192 : pm_hh 192 = [] := by decide +kernel
theorem rc192 : pm_cl 11 = (pm_y 192).cls := by decide +kernel
theorem cl192_0 : ([(0, .aload_n 0, 1), (1, .iload_n 1, 2), (2, .invokevirtual 205, 5), (5, .aload_n 0, 6), (6, .getfield 19, 9), (9, .invokevirtual 121, 12), (12, .iload_n 1, 13), (13, .invokevirtual 283, 16), (16, .ireturn, 17)] : List (Nat × Instr × Nat)).all (fun q => decide (pm_code 192 q.1 = some q.2)) = true := by decide +kernel
theorem c192_0 : pm_code 192 0 = some (.aload_n 0, 1) := pm_of cl192_0 0 (q := (0, .aload_n 0, 1)) rfl
theorem c192_1 : pm_code 192 1 = some (.iload_n 1, 2) := pm_of cl192_0 1 (q := (1, .iload_n 1, 2)) rfl
theorem c192_2 : pm_code 192 2 = some (.invokevirtual 205, 5) := pm_of cl192_0 2 (q := (2, .invokevirtual 205, 5)) rfl
theorem c192_5 : pm_code 192 5 = some (.aload_n 0, 6) := pm_of cl192_0 3 (q := (5, .aload_n 0, 6)) rfl
theorem c192_6 : pm_code 192 6 = some (.getfield 19, 9) := pm_of cl192_0 4 (q := (6, .getfield 19, 9)) rfl
theorem c192_9 : pm_code 192 9 = some (.invokevirtual 121, 12) := pm_of cl192_0 5 (q := (9, .invokevirtual 121, 12)) rfl
theorem c192_12 : pm_code 192 12 = some (.iload_n 1, 13) := pm_of cl192_0 6 (q := (12, .iload_n 1, 13)) rfl
theorem c192_13 : pm_code 192 13 = some (.invokevirtual 283, 16) := pm_of cl192_0 7 (q := (13, .invokevirtual 283, 16)) rfl
theorem c192_16 : pm_code 192 16 = some (.ireturn, 17) := pm_of cl192_0 8 (q := (16, .ireturn, 17)) rfl
theorem k193 : pm_k 193 = 11 := by decide +kernel
theorem ml193 : pm_ml 193 = 2 := by decide +kernel
theorem rt193 : pm_rt 193 = (some .int) := by decide +kernel
theorem hh193 : pm_hh 193 = [] := by decide +kernel
theorem rc193 : pm_cl 11 = (pm_y 193).cls := by decide +kernel
theorem cl193_0 : ([(0, .aload_n 0, 1), (1, .iload_n 1, 2), (2, .invokevirtual 205, 5), (5, .aload_n 0, 6), (6, .getfield 19, 9), (9, .iload_n 1, 10), (10, .invokevirtual 286, 13), (13, .ireturn, 14)] : List (Nat × Instr × Nat)).all (fun q => decide (pm_code 193 q.1 = some q.2)) = true := by decide +kernel
theorem c193_0 : pm_code 193 0 = some (.aload_n 0, 1) := pm_of cl193_0 0 (q := (0, .aload_n 0, 1)) rfl
theorem c193_1 : pm_code 193 1 = some (.iload_n 1, 2) := pm_of cl193_0 1 (q := (1, .iload_n 1, 2)) rfl
theorem c193_2 : pm_code 193 2 = some (.invokevirtual 205, 5) := pm_of cl193_0 2 (q := (2, .invokevirtual 205, 5)) rfl
theorem c193_5 : pm_code 193 5 = some (.aload_n 0, 6) := pm_of cl193_0 3 (q := (5, .aload_n 0, 6)) rfl
theorem c193_6 : pm_code 193 6 = some (.getfield 19, 9) := pm_of cl193_0 4 (q := (6, .getfield 19, 9)) rfl
theorem c193_9 : pm_code 193 9 = some (.iload_n 1, 10) := pm_of cl193_0 5 (q := (9, .iload_n 1, 10)) rfl
theorem c193_10 : pm_code 193 10 = some (.invokevirtual 286, 13) := pm_of cl193_0 6 (q := (10, .invokevirtual 286, 13)) rfl
theorem c193_13 : pm_code 193 13 = some (.ireturn, 14) := pm_of cl193_0 7 (q := (13, .ireturn, 14)) rfl
theorem k194 : pm_k 194 = 11 := by decide +kernel
theorem ml194 : pm_ml 194 = 2 := by decide +kernel
theorem rt194 : pm_rt 194 = (some .boolean) := by decide +kernel
theorem hh194 : pm_hh 194 = [] := by decide +kernel
theorem rc194 : pm_cl 11 = (pm_y 194).cls := by decide +kernel
theorem cl194_0 : ([(0, .aload_n 0, 1), (1, .iload_n 1, 2), (2, .invokevirtual 205, 5), (5, .aload_n 0, 6), (6, .getfield 19, 9), (9, .iload_n 1, 10), (10, .aload_n 0, 11), (11, .getfield 19, 14), (14, .iload_n 1, 15), (15, .invokevirtual 286, 18), (18, .invokevirtual 289, 21), (21, .ireturn, 22)] : List (Nat × Instr × Nat)).all (fun q => decide (pm_code 194 q.1 = some q.2)) = true := by decide +kernel
theorem c194_0 : pm_code 194 0 = some (.aload_n 0, 1) := pm_of cl194_0 0 (q := (0, .aload_n 0, 1)) rfl
theorem c194_1 : pm_code 194 1 = some (.iload_n 1, 2) := pm_of cl194_0 1 (q := (1, .iload_n 1, 2)) rfl
theorem c194_2 : pm_code 194 2 = some (.invokevirtual 205, 5) := pm_of cl194_0 2 (q := (2, .invokevirtual 205, 5)) rfl
theorem c194_5 : pm_code 194 5 = some (.aload_n 0, 6) := pm_of cl194_0 3 (q := (5, .aload_n 0, 6)) rfl
theorem c194_6 : pm_code 194 6 = some (.getfield 19, 9) := pm_of cl194_0 4 (q := (6, .getfield 19, 9)) rfl
theorem c194_9 : pm_code 194 9 = some (.iload_n 1, 10) := pm_of cl194_0 5 (q := (9, .iload_n 1, 10)) rfl
theorem c194_10 : pm_code 194 10 = some (.aload_n 0, 11) := pm_of cl194_0 6 (q := (10, .aload_n 0, 11)) rfl
theorem c194_11 : pm_code 194 11 = some (.getfield 19, 14) := pm_of cl194_0 7 (q := (11, .getfield 19, 14)) rfl
theorem c194_14 : pm_code 194 14 = some (.iload_n 1, 15) := pm_of cl194_0 8 (q := (14, .iload_n 1, 15)) rfl
theorem c194_15 : pm_code 194 15 = some (.invokevirtual 286, 18) := pm_of cl194_0 9 (q := (15, .invokevirtual 286, 18)) rfl
theorem c194_18 : pm_code 194 18 = some (.invokevirtual 289, 21) := pm_of cl194_0 10 (q := (18, .invokevirtual 289, 21)) rfl
theorem c194_21 : pm_code 194 21 = some (.ireturn, 22) := pm_of cl194_0 11 (q := (21, .ireturn, 22)) rfl
theorem k195 : pm_k 195 = 11 := by decide +kernel
theorem ml195 : pm_ml 195 = 2 := by decide +kernel
theorem rt195 : pm_rt 195 = (some .int) := by decide +kernel
theorem hh195 : pm_hh 195 = [] := by decide +kernel
theorem rc195 : pm_cl 11 = (pm_y 195).cls := by decide +kernel
theorem cl195_0 : ([(0, .aload_n 0, 1), (1, .iload_n 1, 2), (2, .ifCond .lt 13, 5), (5, .iload_n 1, 6), (6, .bipush 99, 8), (8, .if_icmp .gt 7, 11), (11, .iconst 1, 12), (12, .goto 4, 15), (15, .iconst 0, 16), (16, .invokevirtual 134, 19), (19, .aload_n 0, 20), (20, .getfield 19, 23), (23, .iconst 0, 24), (24, .invokevirtual 198, 27), (27, .iload_n 1, 28), (28, .imul, 29), (29, .ireturn, 30)] : List (Nat × Instr × Nat)).all (fun q => decide (pm_code 195 q.1 = some q.2)) = true := by decide +kernel
theorem c195_0 : pm_code 195 0 = some (.aload_n 0, 1) := pm_of cl195_0 0 (q := (0, .aload_n 0, 1)) rfl
theorem c195_1 : pm_code 195 1 = some (.iload_n 1, 2) := pm_of cl195_0 1 (q := (1, .iload_n 1, 2)) rfl
theorem c195_2 : pm_code 195 2 = some (.ifCond .lt 13, 5) := pm_of cl195_0 2 (q := (2, .ifCond .lt 13, 5)) rfl
theorem c195_5 : pm_code 195 5 = some (.iload_n 1, 6) := pm_of cl195_0 3 (q := (5, .iload_n 1, 6)) rfl
theorem c195_6 : pm_code 195 6 = some (.bipush 99, 8) := pm_of cl195_0 4 (q := (6, .bipush 99, 8)) rfl
theorem c195_8 : pm_code 195 8 = some (.if_icmp .gt 7, 11) := pm_of cl195_0 5 (q := (8, .if_icmp .gt 7, 11)) rfl
theorem c195_11 : pm_code 195 11 = some (.iconst 1, 12) := pm_of cl195_0 6 (q := (11, .iconst 1, 12)) rfl
theorem c195_12 : pm_code 195 12 = some (.goto 4, 15) := pm_of cl195_0 7 (q := (12, .goto 4, 15)) rfl
theorem c195_15 : pm_code 195 15 = some (.iconst 0, 16) := pm_of cl195_0 8 (q := (15, .iconst 0, 16)) rfl
theorem c195_16 : pm_code 195 16 = some (.invokevirtual 134, 19) := pm_of cl195_0 9 (q := (16, .invokevirtual 134, 19)) rfl
theorem c195_19 : pm_code 195 19 = some (.aload_n 0, 20) := pm_of cl195_0 10 (q := (19, .aload_n 0, 20)) rfl
theorem c195_20 : pm_code 195 20 = some (.getfield 19, 23) := pm_of cl195_0 11 (q := (20, .getfield 19, 23)) rfl
theorem c195_23 : pm_code 195 23 = some (.iconst 0, 24) := pm_of cl195_0 12 (q := (23, .iconst 0, 24)) rfl
theorem c195_24 : pm_code 195 24 = some (.invokevirtual 198, 27) := pm_of cl195_0 13 (q := (24, .invokevirtual 198, 27)) rfl
theorem c195_27 : pm_code 195 27 = some (.iload_n 1, 28) := pm_of cl195_0 14 (q := (27, .iload_n 1, 28)) rfl
theorem c195_28 : pm_code 195 28 = some (.imul, 29) := pm_of cl195_0 15 (q := (28, .imul, 29)) rfl
theorem c195_29 : pm_code 195 29 = some (.ireturn, 30) := pm_of cl195_0 16 (q := (29, .ireturn, 30)) rfl
theorem k196 : pm_k 196 = 11 := by decide +kernel
theorem ml196 : pm_ml 196 = 3 := by decide +kernel
theorem rt196 : pm_rt 196 = (some .int) := by decide +kernel
theorem hh196 : pm_hh 196 = [] := by decide +kernel
theorem rc196 : pm_cl 11 = (pm_y 196).cls := by decide +kernel
theorem cl196_0 : ([(0, .aload_n 0, 1), (1, .iload_n 1, 2), (2, .ifCond .lt 13, 5), (5, .iload_n 1, 6), (6, .bipush 99, 8), (8, .if_icmp .gt 7, 11), (11, .iconst 1, 12), (12, .goto 4, 15), (15, .iconst 0, 16), (16, .invokevirtual 134, 19), (19, .aload_n 0, 20), (20, .getfield 19, 23), (23, .iconst 0, 24), (24, .invokevirtual 198, 27), (27, .istore_n 2, 28), (28, .iload_n 2, 29), (29, .ifCond .gt 7, 32), (32, .iconst (-1), 33), (33, .goto 19, 36), (36, .iload_n 1, 37), (37, .aload_n 0, 38), (38, .getfield 19, 41), (41, .invokevirtual 156, 44), (44, .invokevirtual 195, 47), (47, .iload_n 2, 48), (48, .idiv, 49), (49, .invokestatic 293, 52), (52, .ireturn, 53)] : List (Nat × Instr × Nat)).all (fun q => decide (pm_code 196 q.1 = some q.2)) = true := by decide +kernel
theorem c196_0 : pm_code 196 0 = some (.aload_n 0, 1) := pm_of cl196_0 0 (q := (0, .aload_n 0, 1)) rfl
theorem c196_1 : pm_code 196 1 = some (.iload_n 1, 2) := pm_of cl196_0 1 (q := (1, .iload_n 1, 2)) rfl
theorem c196_2 : pm_code 196 2 = some (.ifCond .lt 13, 5) := pm_of cl196_0 2 (q := (2, .ifCond .lt 13, 5)) rfl
theorem c196_5 : pm_code 196 5 = some (.iload_n 1, 6) := pm_of cl196_0 3 (q := (5, .iload_n 1, 6)) rfl
theorem c196_6 : pm_code 196 6 = some (.bipush 99, 8) := pm_of cl196_0 4 (q := (6, .bipush 99, 8)) rfl
theorem c196_8 : pm_code 196 8 = some (.if_icmp .gt 7, 11) := pm_of cl196_0 5 (q := (8, .if_icmp .gt 7, 11)) rfl
theorem c196_11 : pm_code 196 11 = some (.iconst 1, 12) := pm_of cl196_0 6 (q := (11, .iconst 1, 12)) rfl
theorem c196_12 : pm_code 196 12 = some (.goto 4, 15) := pm_of cl196_0 7 (q := (12, .goto 4, 15)) rfl
theorem c196_15 : pm_code 196 15 = some (.iconst 0, 16) := pm_of cl196_0 8 (q := (15, .iconst 0, 16)) rfl
theorem c196_16 : pm_code 196 16 = some (.invokevirtual 134, 19) := pm_of cl196_0 9 (q := (16, .invokevirtual 134, 19)) rfl
theorem c196_19 : pm_code 196 19 = some (.aload_n 0, 20) := pm_of cl196_0 10 (q := (19, .aload_n 0, 20)) rfl
theorem c196_20 : pm_code 196 20 = some (.getfield 19, 23) := pm_of cl196_0 11 (q := (20, .getfield 19, 23)) rfl
theorem c196_23 : pm_code 196 23 = some (.iconst 0, 24) := pm_of cl196_0 12 (q := (23, .iconst 0, 24)) rfl
theorem c196_24 : pm_code 196 24 = some (.invokevirtual 198, 27) := pm_of cl196_0 13 (q := (24, .invokevirtual 198, 27)) rfl
theorem c196_27 : pm_code 196 27 = some (.istore_n 2, 28) := pm_of cl196_0 14 (q := (27, .istore_n 2, 28)) rfl
theorem c196_28 : pm_code 196 28 = some (.iload_n 2, 29) := pm_of cl196_0 15 (q := (28, .iload_n 2, 29)) rfl
theorem c196_29 : pm_code 196 29 = some (.ifCond .gt 7, 32) := pm_of cl196_0 16 (q := (29, .ifCond .gt 7, 32)) rfl
theorem c196_32 : pm_code 196 32 = some (.iconst (-1), 33) := pm_of cl196_0 17 (q := (32, .iconst (-1), 33)) rfl
theorem c196_33 : pm_code 196 33 = some (.goto 19, 36) := pm_of cl196_0 18 (q := (33, .goto 19, 36)) rfl
theorem c196_36 : pm_code 196 36 = some (.iload_n 1, 37) := pm_of cl196_0 19 (q := (36, .iload_n 1, 37)) rfl
theorem c196_37 : pm_code 196 37 = some (.aload_n 0, 38) := pm_of cl196_0 20 (q := (37, .aload_n 0, 38)) rfl
theorem c196_38 : pm_code 196 38 = some (.getfield 19, 41) := pm_of cl196_0 21 (q := (38, .getfield 19, 41)) rfl
theorem c196_41 : pm_code 196 41 = some (.invokevirtual 156, 44) := pm_of cl196_0 22 (q := (41, .invokevirtual 156, 44)) rfl
theorem c196_44 : pm_code 196 44 = some (.invokevirtual 195, 47) := pm_of cl196_0 23 (q := (44, .invokevirtual 195, 47)) rfl
theorem c196_47 : pm_code 196 47 = some (.iload_n 2, 48) := pm_of cl196_0 24 (q := (47, .iload_n 2, 48)) rfl
theorem c196_48 : pm_code 196 48 = some (.idiv, 49) := pm_of cl196_0 25 (q := (48, .idiv, 49)) rfl
theorem c196_49 : pm_code 196 49 = some (.invokestatic 293, 52) := pm_of cl196_0 26 (q := (49, .invokestatic 293, 52)) rfl
theorem c196_52 : pm_code 196 52 = some (.ireturn, 53) := pm_of cl196_0 27 (q := (52, .ireturn, 53)) rfl
theorem k197 : pm_k 197 = 11 := by decide +kernel
theorem ml197 : pm_ml 197 = 3 := by decide +kernel
theorem rt197 : pm_rt 197 = (some .int) := by decide +kernel
theorem hh197 : pm_hh 197 = [] := by decide +kernel
theorem rc197 : pm_cl 11 = (pm_y 197).cls := by decide +kernel
theorem cl197_0 : ([(0, .aload_n 0, 1), (1, .iload_n 1, 2), (2, .invokevirtual 205, 5), (5, .aload_n 0, 6), (6, .iload_n 2, 7), (7, .ifCond .lt 12, 10), (10, .iload_n 2, 11), (11, .iconst 3, 12), (12, .if_icmp .gt 7, 15), (15, .iconst 1, 16), (16, .goto 4, 19), (19, .iconst 0, 20), (20, .invokevirtual 134, 23), (23, .aload_n 0, 24), (24, .getfield 47, 27), (27, .aload_n 0, 28), (28, .getfield 19, 31), (31, .aload_n 0, 32), (32, .getfield 75, 35), (35, .iload_n 1, 36), (36, .invokevirtual 296, 39), (39, .iload_n 2, 40), (40, .tableswitch 52 0 2 #[28, 36, 44], 68), (68, .aload_n 0, 69), (69, .getfield 47, 72), (72, .invokevirtual 299, 75), (75, .ireturn, 76), (76, .aload_n 0, 77), (77, .getfield 47, 80), (80, .invokevirtual 302, 83), (83, .ireturn, 84), (84, .aload_n 0, 85), (85, .getfield 47, 88), (88, .invokevirtual 305, 91), (91, .ireturn, 92), (92, .aload_n 0, 93), (93, .getfield 47, 96), (96, .invokevirtual 308, 99), (99, .ireturn, 100)] : List (Nat × Instr × Nat)).all (fun q => decide (pm_code 197 q.1 = some q.2)) = true := by decide +kernel
theorem c197_0 : pm_code 197 0 = some (.aload_n 0, 1) := pm_of cl197_0 0 (q := (0, .aload_n 0, 1)) rfl
theorem c197_1 : pm_code 197 1 = some (.iload_n 1, 2) := pm_of cl197_0 1 (q := (1, .iload_n 1, 2)) rfl
theorem c197_2 : pm_code 197 2 = some (.invokevirtual 205, 5) := pm_of cl197_0 2 (q := (2, .invokevirtual 205, 5)) rfl
theorem c197_5 : pm_code 197 5 = some (.aload_n 0, 6) := pm_of cl197_0 3 (q := (5, .aload_n 0, 6)) rfl
theorem c197_6 : pm_code 197 6 = some (.iload_n 2, 7) := pm_of cl197_0 4 (q := (6, .iload_n 2, 7)) rfl
theorem c197_7 : pm_code 197 7 = some (.ifCond .lt 12, 10) := pm_of cl197_0 5 (q := (7, .ifCond .lt 12, 10)) rfl
theorem c197_10 : pm_code 197 10 = some (.iload_n 2, 11) := pm_of cl197_0 6 (q := (10, .iload_n 2, 11)) rfl
theorem c197_11 : pm_code 197 11 = some (.iconst 3, 12) := pm_of cl197_0 7 (q := (11, .iconst 3, 12)) rfl
theorem c197_12 : pm_code 197 12 = some (.if_icmp .gt 7, 15) := pm_of cl197_0 8 (q := (12, .if_icmp .gt 7, 15)) rfl
theorem c197_15 : pm_code 197 15 = some (.iconst 1, 16) := pm_of cl197_0 9 (q := (15, .iconst 1, 16)) rfl
theorem c197_16 : pm_code 197 16 = some (.goto 4, 19) := pm_of cl197_0 10 (q := (16, .goto 4, 19)) rfl
theorem c197_19 : pm_code 197 19 = some (.iconst 0, 20) := pm_of cl197_0 11 (q := (19, .iconst 0, 20)) rfl
theorem c197_20 : pm_code 197 20 = some (.invokevirtual 134, 23) := pm_of cl197_0 12 (q := (20, .invokevirtual 134, 23)) rfl
theorem c197_23 : pm_code 197 23 = some (.aload_n 0, 24) := pm_of cl197_0 13 (q := (23, .aload_n 0, 24)) rfl
theorem c197_24 : pm_code 197 24 = some (.getfield 47, 27) := pm_of cl197_0 14 (q := (24, .getfield 47, 27)) rfl
theorem c197_27 : pm_code 197 27 = some (.aload_n 0, 28) := pm_of cl197_0 15 (q := (27, .aload_n 0, 28)) rfl
theorem c197_28 : pm_code 197 28 = some (.getfield 19, 31) := pm_of cl197_0 16 (q := (28, .getfield 19, 31)) rfl
theorem c197_31 : pm_code 197 31 = some (.aload_n 0, 32) := pm_of cl197_0 17 (q := (31, .aload_n 0, 32)) rfl
theorem c197_32 : pm_code 197 32 = some (.getfield 75, 35) := pm_of cl197_0 18 (q := (32, .getfield 75, 35)) rfl
theorem c197_35 : pm_code 197 35 = some (.iload_n 1, 36) := pm_of cl197_0 19 (q := (35, .iload_n 1, 36)) rfl
theorem c197_36 : pm_code 197 36 = some (.invokevirtual 296, 39) := pm_of cl197_0 20 (q := (36, .invokevirtual 296, 39)) rfl
theorem c197_39 : pm_code 197 39 = some (.iload_n 2, 40) := pm_of cl197_0 21 (q := (39, .iload_n 2, 40)) rfl
theorem c197_40 : pm_code 197 40 = some (.tableswitch 52 0 2 #[28, 36, 44], 68) := pm_of cl197_0 22 (q := (40, .tableswitch 52 0 2 #[28, 36, 44], 68)) rfl
theorem c197_68 : pm_code 197 68 = some (.aload_n 0, 69) := pm_of cl197_0 23 (q := (68, .aload_n 0, 69)) rfl
theorem c197_69 : pm_code 197 69 = some (.getfield 47, 72) := pm_of cl197_0 24 (q := (69, .getfield 47, 72)) rfl
theorem c197_72 : pm_code 197 72 = some (.invokevirtual 299, 75) := pm_of cl197_0 25 (q := (72, .invokevirtual 299, 75)) rfl
theorem c197_75 : pm_code 197 75 = some (.ireturn, 76) := pm_of cl197_0 26 (q := (75, .ireturn, 76)) rfl
theorem c197_76 : pm_code 197 76 = some (.aload_n 0, 77) := pm_of cl197_0 27 (q := (76, .aload_n 0, 77)) rfl
theorem c197_77 : pm_code 197 77 = some (.getfield 47, 80) := pm_of cl197_0 28 (q := (77, .getfield 47, 80)) rfl
theorem c197_80 : pm_code 197 80 = some (.invokevirtual 302, 83) := pm_of cl197_0 29 (q := (80, .invokevirtual 302, 83)) rfl
theorem c197_83 : pm_code 197 83 = some (.ireturn, 84) := pm_of cl197_0 30 (q := (83, .ireturn, 84)) rfl
theorem c197_84 : pm_code 197 84 = some (.aload_n 0, 85) := pm_of cl197_0 31 (q := (84, .aload_n 0, 85)) rfl
theorem c197_85 : pm_code 197 85 = some (.getfield 47, 88) := pm_of cl197_0 32 (q := (85, .getfield 47, 88)) rfl
theorem c197_88 : pm_code 197 88 = some (.invokevirtual 305, 91) := pm_of cl197_0 33 (q := (88, .invokevirtual 305, 91)) rfl
theorem c197_91 : pm_code 197 91 = some (.ireturn, 92) := pm_of cl197_0 34 (q := (91, .ireturn, 92)) rfl
theorem c197_92 : pm_code 197 92 = some (.aload_n 0, 93) := pm_of cl197_0 35 (q := (92, .aload_n 0, 93)) rfl
theorem c197_93 : pm_code 197 93 = some (.getfield 47, 96) := pm_of cl197_0 36 (q := (93, .getfield 47, 96)) rfl
theorem c197_96 : pm_code 197 96 = some (.invokevirtual 308, 99) := pm_of cl197_0 37 (q := (96, .invokevirtual 308, 99)) rfl
theorem c197_99 : pm_code 197 99 = some (.ireturn, 100) := pm_of cl197_0 38 (q := (99, .ireturn, 100)) rfl
