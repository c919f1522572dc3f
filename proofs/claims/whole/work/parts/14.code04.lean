/-! WHAT STANDS AT EVERY PLACE, ON -/
theorem k198 : pm_k 198 = 11 := by decide +kernel
theorem ml198 : pm_ml 198 = 3 := by decide +kernel
theorem rt198 : pm_rt 198 = (some .int) := by decide +kernel
theorem hh198 : pm_hh 198 = [] := by decide +kernel
theorem rc198 : pm_cl 11 = (pm_y 198).cls := by decide +kernel
theorem cl198_0 : ([(0, .aload_n 0, 1), (1, .iload_n 1, 2), (2, .invokevirtual 205, 5), (5, .aload_n 0, 6), (6, .iload_n 2, 7), (7, .ifCond .eq 8, 10), (10, .iload_n 2, 11), (11, .iconst 1, 12), (12, .if_icmp .ne 7, 15), (15, .iconst 1, 16), (16, .goto 4, 19), (19, .iconst 0, 20), (20, .invokevirtual 134, 23), (23, .aload_n 0, 24), (24, .getfield 47, 27), (27, .aload_n 0, 28), (28, .getfield 19, 31), (31, .aload_n 0, 32), (32, .getfield 75, 35), (35, .iload_n 1, 36), (36, .invokevirtual 296, 39), (39, .aload_n 0, 40), (40, .getfield 47, 43), (43, .aload_n 0, 44), (44, .getfield 75, 47), (47, .invokevirtual 311, 50), (50, .iload_n 2, 51), (51, .ifCond .ne 13, 54), (54, .aload_n 0, 55), (55, .getfield 47, 58), (58, .invokevirtual 315, 61), (61, .goto 10, 64), (64, .aload_n 0, 65), (65, .getfield 47, 68), (68, .invokevirtual 316, 71), (71, .ireturn, 72)] : List (Nat × Instr × Nat)).all (fun q => decide (pm_code 198 q.1 = some q.2)) = true := by decide +kernel
theorem c198_0 : pm_code 198 0 = some (.aload_n 0, 1) := pm_of cl198_0 0 (q := (0, .aload_n 0, 1)) rfl
theorem c198_1 : pm_code 198 1 = some (.iload_n 1, 2) := pm_of cl198_0 1 (q := (1, .iload_n 1, 2)) rfl
theorem c198_2 : pm_code 198 2 = some (.invokevirtual 205, 5) := pm_of cl198_0 2 (q := (2, .invokevirtual 205, 5)) rfl
theorem c198_5 : pm_code 198 5 = some (.aload_n 0, 6) := pm_of cl198_0 3 (q := (5, .aload_n 0, 6)) rfl
theorem c198_6 : pm_code 198 6 = some (.iload_n 2, 7) := pm_of cl198_0 4 (q := (6, .iload_n 2, 7)) rfl
theorem c198_7 : pm_code 198 7 = some (.ifCond .eq 8, 10) := pm_of cl198_0 5 (q := (7, .ifCond .eq 8, 10)) rfl
theorem c198_10 : pm_code 198 10 = some (.iload_n 2, 11) := pm_of cl198_0 6 (q := (10, .iload_n 2, 11)) rfl
theorem c198_11 : pm_code 198 11 = some (.iconst 1, 12) := pm_of cl198_0 7 (q := (11, .iconst 1, 12)) rfl
theorem c198_12 : pm_code 198 12 = some (.if_icmp .ne 7, 15) := pm_of cl198_0 8 (q := (12, .if_icmp .ne 7, 15)) rfl
theorem c198_15 : pm_code 198 15 = some (.iconst 1, 16) := pm_of cl198_0 9 (q := (15, .iconst 1, 16)) rfl
theorem c198_16 : pm_code 198 16 = some (.goto 4, 19) := pm_of cl198_0 10 (q := (16, .goto 4, 19)) rfl
theorem c198_19 : pm_code 198 19 = some (.iconst 0, 20) := pm_of cl198_0 11 (q := (19, .iconst 0, 20)) rfl
theorem c198_20 : pm_code 198 20 = some (.invokevirtual 134, 23) := pm_of cl198_0 12 (q := (20, .invokevirtual 134, 23)) rfl
theorem c198_23 : pm_code 198 23 = some (.aload_n 0, 24) := pm_of cl198_0 13 (q := (23, .aload_n 0, 24)) rfl
theorem c198_24 : pm_code 198 24 = some (.getfield 47, 27) := pm_of cl198_0 14 (q := (24, .getfield 47, 27)) rfl
theorem c198_27 : pm_code 198 27 = some (.aload_n 0, 28) := pm_of cl198_0 15 (q := (27, .aload_n 0, 28)) rfl
theorem c198_28 : pm_code 198 28 = some (.getfield 19, 31) := pm_of cl198_0 16 (q := (28, .getfield 19, 31)) rfl
theorem c198_31 : pm_code 198 31 = some (.aload_n 0, 32) := pm_of cl198_0 17 (q := (31, .aload_n 0, 32)) rfl
theorem c198_32 : pm_code 198 32 = some (.getfield 75, 35) := pm_of cl198_0 18 (q := (32, .getfield 75, 35)) rfl
theorem c198_35 : pm_code 198 35 = some (.iload_n 1, 36) := pm_of cl198_0 19 (q := (35, .iload_n 1, 36)) rfl
theorem c198_36 : pm_code 198 36 = some (.invokevirtual 296, 39) := pm_of cl198_0 20 (q := (36, .invokevirtual 296, 39)) rfl
theorem c198_39 : pm_code 198 39 = some (.aload_n 0, 40) := pm_of cl198_0 21 (q := (39, .aload_n 0, 40)) rfl
theorem c198_40 : pm_code 198 40 = some (.getfield 47, 43) := pm_of cl198_0 22 (q := (40, .getfield 47, 43)) rfl
theorem c198_43 : pm_code 198 43 = some (.aload_n 0, 44) := pm_of cl198_0 23 (q := (43, .aload_n 0, 44)) rfl
theorem c198_44 : pm_code 198 44 = some (.getfield 75, 47) := pm_of cl198_0 24 (q := (44, .getfield 75, 47)) rfl
theorem c198_47 : pm_code 198 47 = some (.invokevirtual 311, 50) := pm_of cl198_0 25 (q := (47, .invokevirtual 311, 50)) rfl
theorem c198_50 : pm_code 198 50 = some (.iload_n 2, 51) := pm_of cl198_0 26 (q := (50, .iload_n 2, 51)) rfl
theorem c198_51 : pm_code 198 51 = some (.ifCond .ne 13, 54) := pm_of cl198_0 27 (q := (51, .ifCond .ne 13, 54)) rfl
theorem c198_54 : pm_code 198 54 = some (.aload_n 0, 55) := pm_of cl198_0 28 (q := (54, .aload_n 0, 55)) rfl
theorem c198_55 : pm_code 198 55 = some (.getfield 47, 58) := pm_of cl198_0 29 (q := (55, .getfield 47, 58)) rfl
theorem c198_58 : pm_code 198 58 = some (.invokevirtual 315, 61) := pm_of cl198_0 30 (q := (58, .invokevirtual 315, 61)) rfl
theorem c198_61 : pm_code 198 61 = some (.goto 10, 64) := pm_of cl198_0 31 (q := (61, .goto 10, 64)) rfl
theorem c198_64 : pm_code 198 64 = some (.aload_n 0, 65) := pm_of cl198_0 32 (q := (64, .aload_n 0, 65)) rfl
theorem c198_65 : pm_code 198 65 = some (.getfield 47, 68) := pm_of cl198_0 33 (q := (65, .getfield 47, 68)) rfl
theorem c198_68 : pm_code 198 68 = some (.invokevirtual 316, 71) := pm_of cl198_0 34 (q := (68, .invokevirtual 316, 71)) rfl
theorem c198_71 : pm_code 198 71 = some (.ireturn, 72) := pm_of cl198_0 35 (q := (71, .ireturn, 72)) rfl
theorem k199 : pm_k 199 = 11 := by decide +kernel
theorem ml199 : pm_ml 199 = 8 := by decide +kernel
theorem rt199 : pm_rt 199 = (some .long) := by decide +kernel
theorem hh199 : pm_hh 199 = [] := by decide +kernel
theorem rc199 : pm_cl 11 = (pm_y 199).cls := by decide +kernel
theorem cl199_0 : ([(0, .aload_n 0, 1), (1, .iload_n 1, 2), (2, .invokestatic 319, 5), (5, .invokevirtual 134, 8), (8, .aload_n 0, 9), (9, .iload_n 2, 10), (10, .ifCond .lt 13, 13), (13, .iload_n 2, 14), (14, .bipush 16, 16), (16, .if_icmp .gt 7, 19), (19, .iconst 1, 20), (20, .goto 4, 23), (23, .iconst 0, 24), (24, .invokevirtual 134, 27), (27, .aload_n 0, 28), (28, .iload_n 3, 29), (29, .ifCond .eq 8, 32), (32, .iload_n 3, 33), (33, .iconst 1, 34), (34, .if_icmp .ne 7, 37), (37, .iconst 1, 38), (38, .goto 4, 41), (41, .iconst 0, 42), (42, .invokevirtual 134, 45), (45, .iload_n 1, 46), (46, .iload_n 2, 47), (47, .invokestatic 323, 50), (50, .lstore 4, 52), (52, .iconst 0, 53), (53, .istore 6, 55), (55, .iconst 0, 56), (56, .istore 7, 58), (58, .iload 7, 60), (60, .iconst 4, 61), (61, .iload_n 1, 62), (62, .imul, 63), (63, .if_icmp .ge 27, 66), (66, .lload 4, 68), (68, .lconst 1, 69), (69, .land, 70)] : List (Nat × Instr × Nat)).all (fun q => decide (pm_code 199 q.1 = some q.2)) = true := by decide +kernel
theorem c199_0 : pm_code 199 0 = some (.aload_n 0, 1) := pm_of cl199_0 0 (q := (0, .aload_n 0, 1)) rfl
theorem c199_1 : pm_code 199 1 = some (.iload_n 1, 2) := pm_of cl199_0 1 (q := (1, .iload_n 1, 2)) rfl
theorem c199_2 : pm_code 199 2 = some (.invokestatic 319, 5) := pm_of cl199_0 2 (q := (2, .invokestatic 319, 5)) rfl
theorem c199_5 : pm_code 199 5 = some (.invokevirtual 134, 8) := pm_of cl199_0 3 (q := (5, .invokevirtual 134, 8)) rfl
theorem c199_8 : pm_code 199 8 = some (.aload_n 0, 9) := pm_of cl199_0 4 (q := (8, .aload_n 0, 9)) rfl
theorem c199_9 : pm_code 199 9 = some (.iload_n 2, 10) := pm_of cl199_0 5 (q := (9, .iload_n 2, 10)) rfl
theorem c199_10 : pm_code 199 10 = some (.ifCond .lt 13, 13) := pm_of cl199_0 6 (q := (10, .ifCond .lt 13, 13)) rfl
theorem c199_13 : pm_code 199 13 = some (.iload_n 2, 14) := pm_of cl199_0 7 (q := (13, .iload_n 2, 14)) rfl
theorem c199_14 : pm_code 199 14 = some (.bipush 16, 16) := pm_of cl199_0 8 (q := (14, .bipush 16, 16)) rfl
theorem c199_16 : pm_code 199 16 = some (.if_icmp .gt 7, 19) := pm_of cl199_0 9 (q := (16, .if_icmp .gt 7, 19)) rfl
theorem c199_19 : pm_code 199 19 = some (.iconst 1, 20) := pm_of cl199_0 10 (q := (19, .iconst 1, 20)) rfl
theorem c199_20 : pm_code 199 20 = some (.goto 4, 23) := pm_of cl199_0 11 (q := (20, .goto 4, 23)) rfl
theorem c199_23 : pm_code 199 23 = some (.iconst 0, 24) := pm_of cl199_0 12 (q := (23, .iconst 0, 24)) rfl
theorem c199_24 : pm_code 199 24 = some (.invokevirtual 134, 27) := pm_of cl199_0 13 (q := (24, .invokevirtual 134, 27)) rfl
theorem c199_27 : pm_code 199 27 = some (.aload_n 0, 28) := pm_of cl199_0 14 (q := (27, .aload_n 0, 28)) rfl
theorem c199_28 : pm_code 199 28 = some (.iload_n 3, 29) := pm_of cl199_0 15 (q := (28, .iload_n 3, 29)) rfl
theorem c199_29 : pm_code 199 29 = some (.ifCond .eq 8, 32) := pm_of cl199_0 16 (q := (29, .ifCond .eq 8, 32)) rfl
theorem c199_32 : pm_code 199 32 = some (.iload_n 3, 33) := pm_of cl199_0 17 (q := (32, .iload_n 3, 33)) rfl
theorem c199_33 : pm_code 199 33 = some (.iconst 1, 34) := pm_of cl199_0 18 (q := (33, .iconst 1, 34)) rfl
theorem c199_34 : pm_code 199 34 = some (.if_icmp .ne 7, 37) := pm_of cl199_0 19 (q := (34, .if_icmp .ne 7, 37)) rfl
theorem c199_37 : pm_code 199 37 = some (.iconst 1, 38) := pm_of cl199_0 20 (q := (37, .iconst 1, 38)) rfl
theorem c199_38 : pm_code 199 38 = some (.goto 4, 41) := pm_of cl199_0 21 (q := (38, .goto 4, 41)) rfl
theorem c199_41 : pm_code 199 41 = some (.iconst 0, 42) := pm_of cl199_0 22 (q := (41, .iconst 0, 42)) rfl
theorem c199_42 : pm_code 199 42 = some (.invokevirtual 134, 45) := pm_of cl199_0 23 (q := (42, .invokevirtual 134, 45)) rfl
theorem c199_45 : pm_code 199 45 = some (.iload_n 1, 46) := pm_of cl199_0 24 (q := (45, .iload_n 1, 46)) rfl
theorem c199_46 : pm_code 199 46 = some (.iload_n 2, 47) := pm_of cl199_0 25 (q := (46, .iload_n 2, 47)) rfl
theorem c199_47 : pm_code 199 47 = some (.invokestatic 323, 50) := pm_of cl199_0 26 (q := (47, .invokestatic 323, 50)) rfl
theorem c199_50 : pm_code 199 50 = some (.lstore 4, 52) := pm_of cl199_0 27 (q := (50, .lstore 4, 52)) rfl
theorem c199_52 : pm_code 199 52 = some (.iconst 0, 53) := pm_of cl199_0 28 (q := (52, .iconst 0, 53)) rfl
theorem c199_53 : pm_code 199 53 = some (.istore 6, 55) := pm_of cl199_0 29 (q := (53, .istore 6, 55)) rfl
theorem c199_55 : pm_code 199 55 = some (.iconst 0, 56) := pm_of cl199_0 30 (q := (55, .iconst 0, 56)) rfl
theorem c199_56 : pm_code 199 56 = some (.istore 7, 58) := pm_of cl199_0 31 (q := (56, .istore 7, 58)) rfl
theorem c199_58 : pm_code 199 58 = some (.iload 7, 60) := pm_of cl199_0 32 (q := (58, .iload 7, 60)) rfl
theorem c199_60 : pm_code 199 60 = some (.iconst 4, 61) := pm_of cl199_0 33 (q := (60, .iconst 4, 61)) rfl
theorem c199_61 : pm_code 199 61 = some (.iload_n 1, 62) := pm_of cl199_0 34 (q := (61, .iload_n 1, 62)) rfl
theorem c199_62 : pm_code 199 62 = some (.imul, 63) := pm_of cl199_0 35 (q := (62, .imul, 63)) rfl
theorem c199_63 : pm_code 199 63 = some (.if_icmp .ge 27, 66) := pm_of cl199_0 36 (q := (63, .if_icmp .ge 27, 66)) rfl
theorem c199_66 : pm_code 199 66 = some (.lload 4, 68) := pm_of cl199_0 37 (q := (66, .lload 4, 68)) rfl
theorem c199_68 : pm_code 199 68 = some (.lconst 1, 69) := pm_of cl199_0 38 (q := (68, .lconst 1, 69)) rfl
theorem c199_69 : pm_code 199 69 = some (.land, 70) := pm_of cl199_0 39 (q := (69, .land, 70)) rfl
theorem cl199_1 : ([(70, .lconst 0, 71), (71, .lcmp, 72), (72, .ifCond .ne 18, 75), (75, .lload 4, 77), (77, .iconst 1, 78), (78, .lshr, 79), (79, .lstore 4, 81), (81, .iinc 6 1, 84), (84, .iinc 7 1, 87), (87, .goto (-29), 90), (90, .iload_n 3, 91), (91, .ifCond .ne 8, 94), (94, .lload 4, 96), (96, .goto 11, 99), (99, .lconst 1, 100), (100, .iconst 4, 101), (101, .iload_n 1, 102), (102, .imul, 103), (103, .iload 6, 105), (105, .isub, 106), (106, .lshl, 107), (107, .lreturn, 108)] : List (Nat × Instr × Nat)).all (fun q => decide (pm_code 199 q.1 = some q.2)) = true := by decide +kernel
theorem c199_70 : pm_code 199 70 = some (.lconst 0, 71) := pm_of cl199_1 0 (q := (70, .lconst 0, 71)) rfl
theorem c199_71 : pm_code 199 71 = some (.lcmp, 72) := pm_of cl199_1 1 (q := (71, .lcmp, 72)) rfl
theorem c199_72 : pm_code 199 72 = some (.ifCond .ne 18, 75) := pm_of cl199_1 2 (q := (72, .ifCond .ne 18, 75)) rfl
theorem c199_75 : pm_code 199 75 = some (.lload 4, 77) := pm_of cl199_1 3 (q := (75, .lload 4, 77)) rfl
theorem c199_77 : pm_code 199 77 = some (.iconst 1, 78) := pm_of cl199_1 4 (q := (77, .iconst 1, 78)) rfl
theorem c199_78 : pm_code 199 78 = some (.lshr, 79) := pm_of cl199_1 5 (q := (78, .lshr, 79)) rfl
theorem c199_79 : pm_code 199 79 = some (.lstore 4, 81) := pm_of cl199_1 6 (q := (79, .lstore 4, 81)) rfl
theorem c199_81 : pm_code 199 81 = some (.iinc 6 1, 84) := pm_of cl199_1 7 (q := (81, .iinc 6 1, 84)) rfl
theorem c199_84 : pm_code 199 84 = some (.iinc 7 1, 87) := pm_of cl199_1 8 (q := (84, .iinc 7 1, 87)) rfl
theorem c199_87 : pm_code 199 87 = some (.goto (-29), 90) := pm_of cl199_1 9 (q := (87, .goto (-29), 90)) rfl
theorem c199_90 : pm_code 199 90 = some (.iload_n 3, 91) := pm_of cl199_1 10 (q := (90, .iload_n 3, 91)) rfl
theorem c199_91 : pm_code 199 91 = some (.ifCond .ne 8, 94) := pm_of cl199_1 11 (q := (91, .ifCond .ne 8, 94)) rfl
theorem c199_94 : pm_code 199 94 = some (.lload 4, 96) := pm_of cl199_1 12 (q := (94, .lload 4, 96)) rfl
theorem c199_96 : pm_code 199 96 = some (.goto 11, 99) := pm_of cl199_1 13 (q := (96, .goto 11, 99)) rfl
theorem c199_99 : pm_code 199 99 = some (.lconst 1, 100) := pm_of cl199_1 14 (q := (99, .lconst 1, 100)) rfl
theorem c199_100 : pm_code 199 100 = some (.iconst 4, 101) := pm_of cl199_1 15 (q := (100, .iconst 4, 101)) rfl
theorem c199_101 : pm_code 199 101 = some (.iload_n 1, 102) := pm_of cl199_1 16 (q := (101, .iload_n 1, 102)) rfl
theorem c199_102 : pm_code 199 102 = some (.imul, 103) := pm_of cl199_1 17 (q := (102, .imul, 103)) rfl
theorem c199_103 : pm_code 199 103 = some (.iload 6, 105) := pm_of cl199_1 18 (q := (103, .iload 6, 105)) rfl
theorem c199_105 : pm_code 199 105 = some (.isub, 106) := pm_of cl199_1 19 (q := (105, .isub, 106)) rfl
theorem c199_106 : pm_code 199 106 = some (.lshl, 107) := pm_of cl199_1 20 (q := (106, .lshl, 107)) rfl
theorem c199_107 : pm_code 199 107 = some (.lreturn, 108) := pm_of cl199_1 21 (q := (107, .lreturn, 108)) rfl
theorem k200 : pm_k 200 = 11 := by decide +kernel
theorem ml200 : pm_ml 200 = 1 := by decide +kernel
theorem rt200 : pm_rt 200 = (some .boolean) := by decide +kernel
theorem hh200 : pm_hh 200 = [] := by decide +kernel
theorem rc200 : pm_cl 11 = (pm_y 200).cls := by decide +kernel
theorem cl200_0 : ([(0, .iload_n 0, 1), (1, .iconst 1, 2), (2, .if_icmp .lt 20, 5), (5, .iload_n 0, 6), (6, .bipush 9, 8), (8, .if_icmp .gt 14, 11), (11, .iload_n 0, 12), (12, .iconst 1, 13), (13, .iand, 14), (14, .iconst 1, 15), (15, .if_icmp .ne 7, 18), (18, .iconst 1, 19), (19, .goto 4, 22), (22, .iconst 0, 23), (23, .ireturn, 24)] : List (Nat × Instr × Nat)).all (fun q => decide (pm_code 200 q.1 = some q.2)) = true := by decide +kernel
theorem c200_0 : pm_code 200 0 = some (.iload_n 0, 1) := pm_of cl200_0 0 (q := (0, .iload_n 0, 1)) rfl
theorem c200_1 : pm_code 200 1 = some (.iconst 1, 2) := pm_of cl200_0 1 (q := (1, .iconst 1, 2)) rfl
theorem c200_2 : pm_code 200 2 = some (.if_icmp .lt 20, 5) := pm_of cl200_0 2 (q := (2, .if_icmp .lt 20, 5)) rfl
theorem c200_5 : pm_code 200 5 = some (.iload_n 0, 6) := pm_of cl200_0 3 (q := (5, .iload_n 0, 6)) rfl
theorem c200_6 : pm_code 200 6 = some (.bipush 9, 8) := pm_of cl200_0 4 (q := (6, .bipush 9, 8)) rfl
theorem c200_8 : pm_code 200 8 = some (.if_icmp .gt 14, 11) := pm_of cl200_0 5 (q := (8, .if_icmp .gt 14, 11)) rfl
theorem c200_11 : pm_code 200 11 = some (.iload_n 0, 12) := pm_of cl200_0 6 (q := (11, .iload_n 0, 12)) rfl
theorem c200_12 : pm_code 200 12 = some (.iconst 1, 13) := pm_of cl200_0 7 (q := (12, .iconst 1, 13)) rfl
theorem c200_13 : pm_code 200 13 = some (.iand, 14) := pm_of cl200_0 8 (q := (13, .iand, 14)) rfl
theorem c200_14 : pm_code 200 14 = some (.iconst 1, 15) := pm_of cl200_0 9 (q := (14, .iconst 1, 15)) rfl
theorem c200_15 : pm_code 200 15 = some (.if_icmp .ne 7, 18) := pm_of cl200_0 10 (q := (15, .if_icmp .ne 7, 18)) rfl
theorem c200_18 : pm_code 200 18 = some (.iconst 1, 19) := pm_of cl200_0 11 (q := (18, .iconst 1, 19)) rfl
theorem c200_19 : pm_code 200 19 = some (.goto 4, 22) := pm_of cl200_0 12 (q := (19, .goto 4, 22)) rfl
theorem c200_22 : pm_code 200 22 = some (.iconst 0, 23) := pm_of cl200_0 13 (q := (22, .iconst 0, 23)) rfl
theorem c200_23 : pm_code 200 23 = some (.ireturn, 24) := pm_of cl200_0 14 (q := (23, .ireturn, 24)) rfl
theorem k201 : pm_k 201 = 11 := by decide +kernel
theorem ml201 : pm_ml 201 = 5 := by decide +kernel
theorem rt201 : pm_rt 201 = (some .long) := by decide +kernel
theorem hh201 : pm_hh 201 = [] := by decide +kernel
theorem rc201 : pm_cl 11 = (pm_y 201).cls := by decide +kernel
theorem cl201_0 : ([(0, .lconst 0, 1), (1, .lstore_n 2, 2), (2, .iload_n 0, 3), (3, .iconst 2, 4), (4, .idiv, 5), (5, .iconst 1, 6), (6, .iadd, 7), (7, .istore 4, 9), (9, .iload 4, 11), (11, .iload_n 0, 12), (12, .if_icmp .gt 37, 15), (15, .lload_n 2, 16), (16, .iload_n 0, 17), (17, .iload 4, 19), (19, .invokestatic 384, 22), (22, .iload_n 1, 23), (23, .iload 4, 25), (25, .invokestatic 387, 28), (28, .lmul, 29), (29, .bipush 16, 31), (31, .iload_n 1, 32), (32, .isub, 33), (33, .iload_n 0, 34), (34, .iload 4, 36), (36, .isub, 37), (37, .invokestatic 387, 40), (40, .lmul, 41), (41, .ladd, 42), (42, .lstore_n 2, 43), (43, .iinc 4 1, 46), (46, .goto (-37), 49), (49, .lload_n 2, 50), (50, .lreturn, 51)] : List (Nat × Instr × Nat)).all (fun q => decide (pm_code 201 q.1 = some q.2)) = true := by decide +kernel
theorem c201_0 : pm_code 201 0 = some (.lconst 0, 1) := pm_of cl201_0 0 (q := (0, .lconst 0, 1)) rfl
theorem c201_1 : pm_code 201 1 = some (.lstore_n 2, 2) := pm_of cl201_0 1 (q := (1, .lstore_n 2, 2)) rfl
theorem c201_2 : pm_code 201 2 = some (.iload_n 0, 3) := pm_of cl201_0 2 (q := (2, .iload_n 0, 3)) rfl
theorem c201_3 : pm_code 201 3 = some (.iconst 2, 4) := pm_of cl201_0 3 (q := (3, .iconst 2, 4)) rfl
theorem c201_4 : pm_code 201 4 = some (.idiv, 5) := pm_of cl201_0 4 (q := (4, .idiv, 5)) rfl
theorem c201_5 : pm_code 201 5 = some (.iconst 1, 6) := pm_of cl201_0 5 (q := (5, .iconst 1, 6)) rfl
theorem c201_6 : pm_code 201 6 = some (.iadd, 7) := pm_of cl201_0 6 (q := (6, .iadd, 7)) rfl
theorem c201_7 : pm_code 201 7 = some (.istore 4, 9) := pm_of cl201_0 7 (q := (7, .istore 4, 9)) rfl
theorem c201_9 : pm_code 201 9 = some (.iload 4, 11) := pm_of cl201_0 8 (q := (9, .iload 4, 11)) rfl
theorem c201_11 : pm_code 201 11 = some (.iload_n 0, 12) := pm_of cl201_0 9 (q := (11, .iload_n 0, 12)) rfl
theorem c201_12 : pm_code 201 12 = some (.if_icmp .gt 37, 15) := pm_of cl201_0 10 (q := (12, .if_icmp .gt 37, 15)) rfl
theorem c201_15 : pm_code 201 15 = some (.lload_n 2, 16) := pm_of cl201_0 11 (q := (15, .lload_n 2, 16)) rfl
theorem c201_16 : pm_code 201 16 = some (.iload_n 0, 17) := pm_of cl201_0 12 (q := (16, .iload_n 0, 17)) rfl
theorem c201_17 : pm_code 201 17 = some (.iload 4, 19) := pm_of cl201_0 13 (q := (17, .iload 4, 19)) rfl
theorem c201_19 : pm_code 201 19 = some (.invokestatic 384, 22) := pm_of cl201_0 14 (q := (19, .invokestatic 384, 22)) rfl
theorem c201_22 : pm_code 201 22 = some (.iload_n 1, 23) := pm_of cl201_0 15 (q := (22, .iload_n 1, 23)) rfl
theorem c201_23 : pm_code 201 23 = some (.iload 4, 25) := pm_of cl201_0 16 (q := (23, .iload 4, 25)) rfl
theorem c201_25 : pm_code 201 25 = some (.invokestatic 387, 28) := pm_of cl201_0 17 (q := (25, .invokestatic 387, 28)) rfl
theorem c201_28 : pm_code 201 28 = some (.lmul, 29) := pm_of cl201_0 18 (q := (28, .lmul, 29)) rfl
theorem c201_29 : pm_code 201 29 = some (.bipush 16, 31) := pm_of cl201_0 19 (q := (29, .bipush 16, 31)) rfl
theorem c201_31 : pm_code 201 31 = some (.iload_n 1, 32) := pm_of cl201_0 20 (q := (31, .iload_n 1, 32)) rfl
theorem c201_32 : pm_code 201 32 = some (.isub, 33) := pm_of cl201_0 21 (q := (32, .isub, 33)) rfl
theorem c201_33 : pm_code 201 33 = some (.iload_n 0, 34) := pm_of cl201_0 22 (q := (33, .iload_n 0, 34)) rfl
theorem c201_34 : pm_code 201 34 = some (.iload 4, 36) := pm_of cl201_0 23 (q := (34, .iload 4, 36)) rfl
theorem c201_36 : pm_code 201 36 = some (.isub, 37) := pm_of cl201_0 24 (q := (36, .isub, 37)) rfl
theorem c201_37 : pm_code 201 37 = some (.invokestatic 387, 40) := pm_of cl201_0 25 (q := (37, .invokestatic 387, 40)) rfl
theorem c201_40 : pm_code 201 40 = some (.lmul, 41) := pm_of cl201_0 26 (q := (40, .lmul, 41)) rfl
theorem c201_41 : pm_code 201 41 = some (.ladd, 42) := pm_of cl201_0 27 (q := (41, .ladd, 42)) rfl
theorem c201_42 : pm_code 201 42 = some (.lstore_n 2, 43) := pm_of cl201_0 28 (q := (42, .lstore_n 2, 43)) rfl
theorem c201_43 : pm_code 201 43 = some (.iinc 4 1, 46) := pm_of cl201_0 29 (q := (43, .iinc 4 1, 46)) rfl
theorem c201_46 : pm_code 201 46 = some (.goto (-37), 49) := pm_of cl201_0 30 (q := (46, .goto (-37), 49)) rfl
theorem c201_49 : pm_code 201 49 = some (.lload_n 2, 50) := pm_of cl201_0 31 (q := (49, .lload_n 2, 50)) rfl
theorem c201_50 : pm_code 201 50 = some (.lreturn, 51) := pm_of cl201_0 32 (q := (50, .lreturn, 51)) rfl
theorem k202 : pm_k 202 = 11 := by decide +kernel
theorem ml202 : pm_ml 202 = 5 := by decide +kernel
theorem rt202 : pm_rt 202 = (some .long) := by decide +kernel
theorem hh202 : pm_hh 202 = [] := by decide +kernel
theorem rc202 : pm_cl 11 = (pm_y 202).cls := by decide +kernel
theorem cl202_0 : ([(0, .lconst 1, 1), (1, .lstore_n 2, 2), (2, .iconst 1, 3), (3, .istore 4, 5), (5, .iload 4, 7), (7, .iload_n 1, 8), (8, .if_icmp .gt 23, 11), (11, .lload_n 2, 12), (12, .iload_n 0, 13), (13, .iload 4, 15), (15, .isub, 16), (16, .iconst 1, 17), (17, .iadd, 18), (18, .i2l, 19), (19, .lmul, 20), (20, .iload 4, 22), (22, .i2l, 23), (23, .ldiv, 24), (24, .lstore_n 2, 25), (25, .iinc 4 1, 28), (28, .goto (-23), 31), (31, .lload_n 2, 32), (32, .lreturn, 33)] : List (Nat × Instr × Nat)).all (fun q => decide (pm_code 202 q.1 = some q.2)) = true := by decide +kernel
theorem c202_0 : pm_code 202 0 = some (.lconst 1, 1) := pm_of cl202_0 0 (q := (0, .lconst 1, 1)) rfl
theorem c202_1 : pm_code 202 1 = some (.lstore_n 2, 2) := pm_of cl202_0 1 (q := (1, .lstore_n 2, 2)) rfl
theorem c202_2 : pm_code 202 2 = some (.iconst 1, 3) := pm_of cl202_0 2 (q := (2, .iconst 1, 3)) rfl
theorem c202_3 : pm_code 202 3 = some (.istore 4, 5) := pm_of cl202_0 3 (q := (3, .istore 4, 5)) rfl
theorem c202_5 : pm_code 202 5 = some (.iload 4, 7) := pm_of cl202_0 4 (q := (5, .iload 4, 7)) rfl
theorem c202_7 : pm_code 202 7 = some (.iload_n 1, 8) := pm_of cl202_0 5 (q := (7, .iload_n 1, 8)) rfl
theorem c202_8 : pm_code 202 8 = some (.if_icmp .gt 23, 11) := pm_of cl202_0 6 (q := (8, .if_icmp .gt 23, 11)) rfl
theorem c202_11 : pm_code 202 11 = some (.lload_n 2, 12) := pm_of cl202_0 7 (q := (11, .lload_n 2, 12)) rfl
theorem c202_12 : pm_code 202 12 = some (.iload_n 0, 13) := pm_of cl202_0 8 (q := (12, .iload_n 0, 13)) rfl
theorem c202_13 : pm_code 202 13 = some (.iload 4, 15) := pm_of cl202_0 9 (q := (13, .iload 4, 15)) rfl
theorem c202_15 : pm_code 202 15 = some (.isub, 16) := pm_of cl202_0 10 (q := (15, .isub, 16)) rfl
theorem c202_16 : pm_code 202 16 = some (.iconst 1, 17) := pm_of cl202_0 11 (q := (16, .iconst 1, 17)) rfl
theorem c202_17 : pm_code 202 17 = some (.iadd, 18) := pm_of cl202_0 12 (q := (17, .iadd, 18)) rfl
theorem c202_18 : pm_code 202 18 = some (.i2l, 19) := pm_of cl202_0 13 (q := (18, .i2l, 19)) rfl
theorem c202_19 : pm_code 202 19 = some (.lmul, 20) := pm_of cl202_0 14 (q := (19, .lmul, 20)) rfl
theorem c202_20 : pm_code 202 20 = some (.iload 4, 22) := pm_of cl202_0 15 (q := (20, .iload 4, 22)) rfl
theorem c202_22 : pm_code 202 22 = some (.i2l, 23) := pm_of cl202_0 16 (q := (22, .i2l, 23)) rfl
theorem c202_23 : pm_code 202 23 = some (.ldiv, 24) := pm_of cl202_0 17 (q := (23, .ldiv, 24)) rfl
theorem c202_24 : pm_code 202 24 = some (.lstore_n 2, 25) := pm_of cl202_0 18 (q := (24, .lstore_n 2, 25)) rfl
theorem c202_25 : pm_code 202 25 = some (.iinc 4 1, 28) := pm_of cl202_0 19 (q := (25, .iinc 4 1, 28)) rfl
theorem c202_28 : pm_code 202 28 = some (.goto (-23), 31) := pm_of cl202_0 20 (q := (28, .goto (-23), 31)) rfl
theorem c202_31 : pm_code 202 31 = some (.lload_n 2, 32) := pm_of cl202_0 21 (q := (31, .lload_n 2, 32)) rfl
theorem c202_32 : pm_code 202 32 = some (.lreturn, 33) := pm_of cl202_0 22 (q := (32, .lreturn, 33)) rfl
theorem k203 : pm_k 203 = 11 := by decide +kernel
theorem ml203 : pm_ml 203 = 5 := by decide +kernel
theorem rt203 : pm_rt 203 = (some .long) := by decide +kernel
theorem hh203 : pm_hh 203 = [] := by decide +kernel
theorem rc203 : pm_cl 11 = (pm_y 203).cls := by decide +kernel
theorem cl203_0 : ([(0, .lconst 1, 1), (1, .lstore_n 2, 2), (2, .iconst 0, 3), (3, .istore 4, 5), (5, .iload 4, 7), (7, .iload_n 1, 8), (8, .if_icmp .ge 14, 11), (11, .lload_n 2, 12), (12, .iload_n 0, 13), (13, .i2l, 14), (14, .lmul, 15), (15, .lstore_n 2, 16), (16, .iinc 4 1, 19), (19, .goto (-14), 22), (22, .lload_n 2, 23), (23, .lreturn, 24)] : List (Nat × Instr × Nat)).all (fun q => decide (pm_code 203 q.1 = some q.2)) = true := by decide +kernel
theorem c203_0 : pm_code 203 0 = some (.lconst 1, 1) := pm_of cl203_0 0 (q := (0, .lconst 1, 1)) rfl
theorem c203_1 : pm_code 203 1 = some (.lstore_n 2, 2) := pm_of cl203_0 1 (q := (1, .lstore_n 2, 2)) rfl
theorem c203_2 : pm_code 203 2 = some (.iconst 0, 3) := pm_of cl203_0 2 (q := (2, .iconst 0, 3)) rfl
theorem c203_3 : pm_code 203 3 = some (.istore 4, 5) := pm_of cl203_0 3 (q := (3, .istore 4, 5)) rfl
theorem c203_5 : pm_code 203 5 = some (.iload 4, 7) := pm_of cl203_0 4 (q := (5, .iload 4, 7)) rfl
theorem c203_7 : pm_code 203 7 = some (.iload_n 1, 8) := pm_of cl203_0 5 (q := (7, .iload_n 1, 8)) rfl
theorem c203_8 : pm_code 203 8 = some (.if_icmp .ge 14, 11) := pm_of cl203_0 6 (q := (8, .if_icmp .ge 14, 11)) rfl
theorem c203_11 : pm_code 203 11 = some (.lload_n 2, 12) := pm_of cl203_0 7 (q := (11, .lload_n 2, 12)) rfl
theorem c203_12 : pm_code 203 12 = some (.iload_n 0, 13) := pm_of cl203_0 8 (q := (12, .iload_n 0, 13)) rfl
theorem c203_13 : pm_code 203 13 = some (.i2l, 14) := pm_of cl203_0 9 (q := (13, .i2l, 14)) rfl
theorem c203_14 : pm_code 203 14 = some (.lmul, 15) := pm_of cl203_0 10 (q := (14, .lmul, 15)) rfl
theorem c203_15 : pm_code 203 15 = some (.lstore_n 2, 16) := pm_of cl203_0 11 (q := (15, .lstore_n 2, 16)) rfl
theorem c203_16 : pm_code 203 16 = some (.iinc 4 1, 19) := pm_of cl203_0 12 (q := (16, .iinc 4 1, 19)) rfl
theorem c203_19 : pm_code 203 19 = some (.goto (-14), 22) := pm_of cl203_0 13 (q := (19, .goto (-14), 22)) rfl
theorem c203_22 : pm_code 203 22 = some (.lload_n 2, 23) := pm_of cl203_0 14 (q := (22, .lload_n 2, 23)) rfl
theorem c203_23 : pm_code 203 23 = some (.lreturn, 24) := pm_of cl203_0 15 (q := (23, .lreturn, 24)) rfl
theorem k204 : pm_k 204 = 11 := by decide +kernel
theorem ml204 : pm_ml 204 = 4 := by decide +kernel
theorem rt204 : pm_rt 204 = (some .int) := by decide +kernel
theorem hh204 : pm_hh 204 = [] := by decide +kernel
theorem rc204 : pm_cl 11 = (pm_y 204).cls := by decide +kernel
theorem cl204_0 : ([(0, .aload_n 0, 1), (1, .iload_n 1, 2), (2, .ifCond .lt 13, 5), (5, .iload_n 1, 6), (6, .bipush 16, 8), (8, .if_icmp .gt 7, 11), (11, .iconst 1, 12), (12, .goto 4, 15), (15, .iconst 0, 16), (16, .invokevirtual 134, 19), (19, .aload_n 0, 20), (20, .iload_n 2, 21), (21, .ifCond .lt 13, 24), (24, .iload_n 2, 25), (25, .bipush 16, 27), (27, .if_icmp .gt 7, 30), (30, .iconst 1, 31), (31, .goto 4, 34), (34, .iconst 0, 35), (35, .invokevirtual 134, 38), (38, .iconst 1, 39), (39, .istore_n 3, 40), (40, .iload_n 3, 41), (41, .bipush 9, 43), (43, .if_icmp .gt 30, 46), (46, .iload_n 3, 47), (47, .iload_n 1, 48), (48, .invokestatic 323, 51), (51, .ldc2_w 327, 54), (54, .lmul, 55), (55, .iload_n 2, 56), (56, .i2l, 57), (57, .iconst 4, 58), (58, .iload_n 3, 59), (59, .imul, 60), (60, .lshl, 61), (61, .lcmp, 62), (62, .ifCond .lt 5, 65), (65, .iload_n 3, 66), (66, .ireturn, 67)] : List (Nat × Instr × Nat)).all (fun q => decide (pm_code 204 q.1 = some q.2)) = true := by decide +kernel
theorem c204_0 : pm_code 204 0 = some (.aload_n 0, 1) := pm_of cl204_0 0 (q := (0, .aload_n 0, 1)) rfl
theorem c204_1 : pm_code 204 1 = some (.iload_n 1, 2) := pm_of cl204_0 1 (q := (1, .iload_n 1, 2)) rfl
theorem c204_2 : pm_code 204 2 = some (.ifCond .lt 13, 5) := pm_of cl204_0 2 (q := (2, .ifCond .lt 13, 5)) rfl
theorem c204_5 : pm_code 204 5 = some (.iload_n 1, 6) := pm_of cl204_0 3 (q := (5, .iload_n 1, 6)) rfl
theorem c204_6 : pm_code 204 6 = some (.bipush 16, 8) := pm_of cl204_0 4 (q := (6, .bipush 16, 8)) rfl
theorem c204_8 : pm_code 204 8 = some (.if_icmp .gt 7, 11) := pm_of cl204_0 5 (q := (8, .if_icmp .gt 7, 11)) rfl
theorem c204_11 : pm_code 204 11 = some (.iconst 1, 12) := pm_of cl204_0 6 (q := (11, .iconst 1, 12)) rfl
theorem c204_12 : pm_code 204 12 = some (.goto 4, 15) := pm_of cl204_0 7 (q := (12, .goto 4, 15)) rfl
theorem c204_15 : pm_code 204 15 = some (.iconst 0, 16) := pm_of cl204_0 8 (q := (15, .iconst 0, 16)) rfl
theorem c204_16 : pm_code 204 16 = some (.invokevirtual 134, 19) := pm_of cl204_0 9 (q := (16, .invokevirtual 134, 19)) rfl
theorem c204_19 : pm_code 204 19 = some (.aload_n 0, 20) := pm_of cl204_0 10 (q := (19, .aload_n 0, 20)) rfl
theorem c204_20 : pm_code 204 20 = some (.iload_n 2, 21) := pm_of cl204_0 11 (q := (20, .iload_n 2, 21)) rfl
theorem c204_21 : pm_code 204 21 = some (.ifCond .lt 13, 24) := pm_of cl204_0 12 (q := (21, .ifCond .lt 13, 24)) rfl
theorem c204_24 : pm_code 204 24 = some (.iload_n 2, 25) := pm_of cl204_0 13 (q := (24, .iload_n 2, 25)) rfl
theorem c204_25 : pm_code 204 25 = some (.bipush 16, 27) := pm_of cl204_0 14 (q := (25, .bipush 16, 27)) rfl
theorem c204_27 : pm_code 204 27 = some (.if_icmp .gt 7, 30) := pm_of cl204_0 15 (q := (27, .if_icmp .gt 7, 30)) rfl
theorem c204_30 : pm_code 204 30 = some (.iconst 1, 31) := pm_of cl204_0 16 (q := (30, .iconst 1, 31)) rfl
theorem c204_31 : pm_code 204 31 = some (.goto 4, 34) := pm_of cl204_0 17 (q := (31, .goto 4, 34)) rfl
theorem c204_34 : pm_code 204 34 = some (.iconst 0, 35) := pm_of cl204_0 18 (q := (34, .iconst 0, 35)) rfl
theorem c204_35 : pm_code 204 35 = some (.invokevirtual 134, 38) := pm_of cl204_0 19 (q := (35, .invokevirtual 134, 38)) rfl
theorem c204_38 : pm_code 204 38 = some (.iconst 1, 39) := pm_of cl204_0 20 (q := (38, .iconst 1, 39)) rfl
theorem c204_39 : pm_code 204 39 = some (.istore_n 3, 40) := pm_of cl204_0 21 (q := (39, .istore_n 3, 40)) rfl
theorem c204_40 : pm_code 204 40 = some (.iload_n 3, 41) := pm_of cl204_0 22 (q := (40, .iload_n 3, 41)) rfl
theorem c204_41 : pm_code 204 41 = some (.bipush 9, 43) := pm_of cl204_0 23 (q := (41, .bipush 9, 43)) rfl
theorem c204_43 : pm_code 204 43 = some (.if_icmp .gt 30, 46) := pm_of cl204_0 24 (q := (43, .if_icmp .gt 30, 46)) rfl
theorem c204_46 : pm_code 204 46 = some (.iload_n 3, 47) := pm_of cl204_0 25 (q := (46, .iload_n 3, 47)) rfl
theorem c204_47 : pm_code 204 47 = some (.iload_n 1, 48) := pm_of cl204_0 26 (q := (47, .iload_n 1, 48)) rfl
theorem c204_48 : pm_code 204 48 = some (.invokestatic 323, 51) := pm_of cl204_0 27 (q := (48, .invokestatic 323, 51)) rfl
theorem c204_51 : pm_code 204 51 = some (.ldc2_w 327, 54) := pm_of cl204_0 28 (q := (51, .ldc2_w 327, 54)) rfl
theorem c204_54 : pm_code 204 54 = some (.lmul, 55) := pm_of cl204_0 29 (q := (54, .lmul, 55)) rfl
theorem c204_55 : pm_code 204 55 = some (.iload_n 2, 56) := pm_of cl204_0 30 (q := (55, .iload_n 2, 56)) rfl
theorem c204_56 : pm_code 204 56 = some (.i2l, 57) := pm_of cl204_0 31 (q := (56, .i2l, 57)) rfl
theorem c204_57 : pm_code 204 57 = some (.iconst 4, 58) := pm_of cl204_0 32 (q := (57, .iconst 4, 58)) rfl
theorem c204_58 : pm_code 204 58 = some (.iload_n 3, 59) := pm_of cl204_0 33 (q := (58, .iload_n 3, 59)) rfl
theorem c204_59 : pm_code 204 59 = some (.imul, 60) := pm_of cl204_0 34 (q := (59, .imul, 60)) rfl
theorem c204_60 : pm_code 204 60 = some (.lshl, 61) := pm_of cl204_0 35 (q := (60, .lshl, 61)) rfl
theorem c204_61 : pm_code 204 61 = some (.lcmp, 62) := pm_of cl204_0 36 (q := (61, .lcmp, 62)) rfl
theorem c204_62 : pm_code 204 62 = some (.ifCond .lt 5, 65) := pm_of cl204_0 37 (q := (62, .ifCond .lt 5, 65)) rfl
theorem c204_65 : pm_code 204 65 = some (.iload_n 3, 66) := pm_of cl204_0 38 (q := (65, .iload_n 3, 66)) rfl
theorem c204_66 : pm_code 204 66 = some (.ireturn, 67) := pm_of cl204_0 39 (q := (66, .ireturn, 67)) rfl
theorem cl204_1 : ([(67, .iinc 3 2, 70), (70, .goto (-30), 73), (73, .iconst (-1), 74), (74, .ireturn, 75)] : List (Nat × Instr × Nat)).all (fun q => decide (pm_code 204 q.1 = some q.2)) = true := by decide +kernel
theorem c204_67 : pm_code 204 67 = some (.iinc 3 2, 70) := pm_of cl204_1 0 (q := (67, .iinc 3 2, 70)) rfl
theorem c204_70 : pm_code 204 70 = some (.goto (-30), 73) := pm_of cl204_1 1 (q := (70, .goto (-30), 73)) rfl
theorem c204_73 : pm_code 204 73 = some (.iconst (-1), 74) := pm_of cl204_1 2 (q := (73, .iconst (-1), 74)) rfl
theorem c204_74 : pm_code 204 74 = some (.ireturn, 75) := pm_of cl204_1 3 (q := (74, .ireturn, 75)) rfl
theorem k205 : pm_k 205 = 11 := by decide +kernel
theorem ml205 : pm_ml 205 = 7 := by decide +kernel
theorem rt205 : pm_rt 205 = (some .int) := by decide +kernel
theorem hh205 : pm_hh 205 = [] := by decide +kernel
theorem rc205 : pm_cl 11 = (pm_y 205).cls := by decide +kernel
theorem cl205_0 : ([(0, .aload_n 0, 1), (1, .iload_n 1, 2), (2, .ifCond .lt 14, 5), (5, .iload_n 1, 6), (6, .sipush 9999, 9), (9, .if_icmp .gt 7, 12), (12, .iconst 1, 13), (13, .goto 4, 16), (16, .iconst 0, 17), (17, .invokevirtual 134, 20), (20, .aload_n 0, 21), (21, .iload_n 2, 22), (22, .ifCond .lt 14, 25), (25, .iload_n 2, 26), (26, .sipush 999, 29), (29, .if_icmp .gt 7, 32), (32, .iconst 1, 33), (33, .goto 4, 36), (36, .iconst 0, 37), (37, .invokevirtual 134, 40), (40, .aload_n 0, 41), (41, .iload_n 3, 42), (42, .ifCond .lt 13, 45), (45, .iload_n 3, 46), (46, .bipush 100, 48), (48, .if_icmp .gt 7, 51), (51, .iconst 1, 52), (52, .goto 4, 55), (55, .iconst 0, 56), (56, .invokevirtual 134, 59), (59, .iload_n 1, 60), (60, .istore 4, 62), (62, .iconst 0, 63), (63, .istore 5, 65), (65, .iload 5, 67), (67, .sipush 600, 70), (70, .if_icmp .gt 44, 73), (73, .iload 4, 75), (75, .ifCond .gt 6, 78), (78, .iload 5, 80)] : List (Nat × Instr × Nat)).all (fun q => decide (pm_code 205 q.1 = some q.2)) = true := by decide +kernel
theorem c205_0 : pm_code 205 0 = some (.aload_n 0, 1) := pm_of cl205_0 0 (q := (0, .aload_n 0, 1)) rfl
theorem c205_1 : pm_code 205 1 = some (.iload_n 1, 2) := pm_of cl205_0 1 (q := (1, .iload_n 1, 2)) rfl
theorem c205_2 : pm_code 205 2 = some (.ifCond .lt 14, 5) := pm_of cl205_0 2 (q := (2, .ifCond .lt 14, 5)) rfl
theorem c205_5 : pm_code 205 5 = some (.iload_n 1, 6) := pm_of cl205_0 3 (q := (5, .iload_n 1, 6)) rfl
theorem c205_6 : pm_code 205 6 = some (.sipush 9999, 9) := pm_of cl205_0 4 (q := (6, .sipush 9999, 9)) rfl
theorem c205_9 : pm_code 205 9 = some (.if_icmp .gt 7, 12) := pm_of cl205_0 5 (q := (9, .if_icmp .gt 7, 12)) rfl
theorem c205_12 : pm_code 205 12 = some (.iconst 1, 13) := pm_of cl205_0 6 (q := (12, .iconst 1, 13)) rfl
theorem c205_13 : pm_code 205 13 = some (.goto 4, 16) := pm_of cl205_0 7 (q := (13, .goto 4, 16)) rfl
theorem c205_16 : pm_code 205 16 = some (.iconst 0, 17) := pm_of cl205_0 8 (q := (16, .iconst 0, 17)) rfl
theorem c205_17 : pm_code 205 17 = some (.invokevirtual 134, 20) := pm_of cl205_0 9 (q := (17, .invokevirtual 134, 20)) rfl
theorem c205_20 : pm_code 205 20 = some (.aload_n 0, 21) := pm_of cl205_0 10 (q := (20, .aload_n 0, 21)) rfl
theorem c205_21 : pm_code 205 21 = some (.iload_n 2, 22) := pm_of cl205_0 11 (q := (21, .iload_n 2, 22)) rfl
theorem c205_22 : pm_code 205 22 = some (.ifCond .lt 14, 25) := pm_of cl205_0 12 (q := (22, .ifCond .lt 14, 25)) rfl
theorem c205_25 : pm_code 205 25 = some (.iload_n 2, 26) := pm_of cl205_0 13 (q := (25, .iload_n 2, 26)) rfl
theorem c205_26 : pm_code 205 26 = some (.sipush 999, 29) := pm_of cl205_0 14 (q := (26, .sipush 999, 29)) rfl
theorem c205_29 : pm_code 205 29 = some (.if_icmp .gt 7, 32) := pm_of cl205_0 15 (q := (29, .if_icmp .gt 7, 32)) rfl
theorem c205_32 : pm_code 205 32 = some (.iconst 1, 33) := pm_of cl205_0 16 (q := (32, .iconst 1, 33)) rfl
theorem c205_33 : pm_code 205 33 = some (.goto 4, 36) := pm_of cl205_0 17 (q := (33, .goto 4, 36)) rfl
theorem c205_36 : pm_code 205 36 = some (.iconst 0, 37) := pm_of cl205_0 18 (q := (36, .iconst 0, 37)) rfl
theorem c205_37 : pm_code 205 37 = some (.invokevirtual 134, 40) := pm_of cl205_0 19 (q := (37, .invokevirtual 134, 40)) rfl
theorem c205_40 : pm_code 205 40 = some (.aload_n 0, 41) := pm_of cl205_0 20 (q := (40, .aload_n 0, 41)) rfl
theorem c205_41 : pm_code 205 41 = some (.iload_n 3, 42) := pm_of cl205_0 21 (q := (41, .iload_n 3, 42)) rfl
theorem c205_42 : pm_code 205 42 = some (.ifCond .lt 13, 45) := pm_of cl205_0 22 (q := (42, .ifCond .lt 13, 45)) rfl
theorem c205_45 : pm_code 205 45 = some (.iload_n 3, 46) := pm_of cl205_0 23 (q := (45, .iload_n 3, 46)) rfl
theorem c205_46 : pm_code 205 46 = some (.bipush 100, 48) := pm_of cl205_0 24 (q := (46, .bipush 100, 48)) rfl
theorem c205_48 : pm_code 205 48 = some (.if_icmp .gt 7, 51) := pm_of cl205_0 25 (q := (48, .if_icmp .gt 7, 51)) rfl
theorem c205_51 : pm_code 205 51 = some (.iconst 1, 52) := pm_of cl205_0 26 (q := (51, .iconst 1, 52)) rfl
theorem c205_52 : pm_code 205 52 = some (.goto 4, 55) := pm_of cl205_0 27 (q := (52, .goto 4, 55)) rfl
theorem c205_55 : pm_code 205 55 = some (.iconst 0, 56) := pm_of cl205_0 28 (q := (55, .iconst 0, 56)) rfl
theorem c205_56 : pm_code 205 56 = some (.invokevirtual 134, 59) := pm_of cl205_0 29 (q := (56, .invokevirtual 134, 59)) rfl
theorem c205_59 : pm_code 205 59 = some (.iload_n 1, 60) := pm_of cl205_0 30 (q := (59, .iload_n 1, 60)) rfl
theorem c205_60 : pm_code 205 60 = some (.istore 4, 62) := pm_of cl205_0 31 (q := (60, .istore 4, 62)) rfl
theorem c205_62 : pm_code 205 62 = some (.iconst 0, 63) := pm_of cl205_0 32 (q := (62, .iconst 0, 63)) rfl
theorem c205_63 : pm_code 205 63 = some (.istore 5, 65) := pm_of cl205_0 33 (q := (63, .istore 5, 65)) rfl
theorem c205_65 : pm_code 205 65 = some (.iload 5, 67) := pm_of cl205_0 34 (q := (65, .iload 5, 67)) rfl
theorem c205_67 : pm_code 205 67 = some (.sipush 600, 70) := pm_of cl205_0 35 (q := (67, .sipush 600, 70)) rfl
theorem c205_70 : pm_code 205 70 = some (.if_icmp .gt 44, 73) := pm_of cl205_0 36 (q := (70, .if_icmp .gt 44, 73)) rfl
theorem c205_73 : pm_code 205 73 = some (.iload 4, 75) := pm_of cl205_0 37 (q := (73, .iload 4, 75)) rfl
theorem c205_75 : pm_code 205 75 = some (.ifCond .gt 6, 78) := pm_of cl205_0 38 (q := (75, .ifCond .gt 6, 78)) rfl
theorem c205_78 : pm_code 205 78 = some (.iload 5, 80) := pm_of cl205_0 39 (q := (78, .iload 5, 80)) rfl
theorem cl205_1 : ([(80, .ireturn, 81), (81, .iload 4, 83), (83, .iload_n 3, 84), (84, .imul, 85), (85, .sipush 1000, 88), (88, .idiv, 89), (89, .istore 6, 91), (91, .iload 6, 93), (93, .iload_n 2, 94), (94, .if_icmp .lt 5, 97), (97, .iconst (-1), 98), (98, .ireturn, 99), (99, .iload 4, 101), (101, .iload 6, 103), (103, .iadd, 104), (104, .iload_n 2, 105), (105, .isub, 106), (106, .istore 4, 108), (108, .iinc 5 1, 111), (111, .goto (-46), 114), (114, .iconst (-1), 115), (115, .ireturn, 116)] : List (Nat × Instr × Nat)).all (fun q => decide (pm_code 205 q.1 = some q.2)) = true := by decide +kernel
theorem c205_80 : pm_code 205 80 = some (.ireturn, 81) := pm_of cl205_1 0 (q := (80, .ireturn, 81)) rfl
theorem c205_81 : pm_code 205 81 = some (.iload 4, 83) := pm_of cl205_1 1 (q := (81, .iload 4, 83)) rfl
theorem c205_83 : pm_code 205 83 = some (.iload_n 3, 84) := pm_of cl205_1 2 (q := (83, .iload_n 3, 84)) rfl
theorem c205_84 : pm_code 205 84 = some (.imul, 85) := pm_of cl205_1 3 (q := (84, .imul, 85)) rfl
theorem c205_85 : pm_code 205 85 = some (.sipush 1000, 88) := pm_of cl205_1 4 (q := (85, .sipush 1000, 88)) rfl
theorem c205_88 : pm_code 205 88 = some (.idiv, 89) := pm_of cl205_1 5 (q := (88, .idiv, 89)) rfl
theorem c205_89 : pm_code 205 89 = some (.istore 6, 91) := pm_of cl205_1 6 (q := (89, .istore 6, 91)) rfl
theorem c205_91 : pm_code 205 91 = some (.iload 6, 93) := pm_of cl205_1 7 (q := (91, .iload 6, 93)) rfl
theorem c205_93 : pm_code 205 93 = some (.iload_n 2, 94) := pm_of cl205_1 8 (q := (93, .iload_n 2, 94)) rfl
theorem c205_94 : pm_code 205 94 = some (.if_icmp .lt 5, 97) := pm_of cl205_1 9 (q := (94, .if_icmp .lt 5, 97)) rfl
theorem c205_97 : pm_code 205 97 = some (.iconst (-1), 98) := pm_of cl205_1 10 (q := (97, .iconst (-1), 98)) rfl
theorem c205_98 : pm_code 205 98 = some (.ireturn, 99) := pm_of cl205_1 11 (q := (98, .ireturn, 99)) rfl
theorem c205_99 : pm_code 205 99 = some (.iload 4, 101) := pm_of cl205_1 12 (q := (99, .iload 4, 101)) rfl
theorem c205_101 : pm_code 205 101 = some (.iload 6, 103) := pm_of cl205_1 13 (q := (101, .iload 6, 103)) rfl
theorem c205_103 : pm_code 205 103 = some (.iadd, 104) := pm_of cl205_1 14 (q := (103, .iadd, 104)) rfl
theorem c205_104 : pm_code 205 104 = some (.iload_n 2, 105) := pm_of cl205_1 15 (q := (104, .iload_n 2, 105)) rfl
theorem c205_105 : pm_code 205 105 = some (.isub, 106) := pm_of cl205_1 16 (q := (105, .isub, 106)) rfl
theorem c205_106 : pm_code 205 106 = some (.istore 4, 108) := pm_of cl205_1 17 (q := (106, .istore 4, 108)) rfl
theorem c205_108 : pm_code 205 108 = some (.iinc 5 1, 111) := pm_of cl205_1 18 (q := (108, .iinc 5 1, 111)) rfl
theorem c205_111 : pm_code 205 111 = some (.goto (-46), 114) := pm_of cl205_1 19 (q := (111, .goto (-46), 114)) rfl
theorem c205_114 : pm_code 205 114 = some (.iconst (-1), 115) := pm_of cl205_1 20 (q := (114, .iconst (-1), 115)) rfl
theorem c205_115 : pm_code 205 115 = some (.ireturn, 116) := pm_of cl205_1 21 (q := (115, .ireturn, 116)) rfl
theorem k206 : pm_k 206 = 11 := by decide +kernel
theorem ml206 : pm_ml 206 = 3 := by decide +kernel
theorem rt206 : pm_rt 206 = (some .int) := by decide +kernel
theorem hh206 : pm_hh 206 = [] := by decide +kernel
theorem rc206 : pm_cl 11 = (pm_y 206).cls := by decide +kernel
theorem cl206_0 : ([(0, .aload_n 0, 1), (1, .iload_n 1, 2), (2, .invokevirtual 221, 5), (5, .aload_n 0, 6), (6, .iload_n 2, 7), (7, .ifCond .lt 13, 10), (10, .iload_n 2, 11), (11, .bipush 99, 13), (13, .if_icmp .gt 7, 16), (16, .iconst 1, 17), (17, .goto 4, 20), (20, .iconst 0, 21), (21, .invokevirtual 134, 24), (24, .aload_n 0, 25), (25, .getfield 19, 28), (28, .iload_n 1, 29), (29, .iload_n 2, 30), (30, .invokevirtual 329, 33), (33, .ireturn, 34)] : List (Nat × Instr × Nat)).all (fun q => decide (pm_code 206 q.1 = some q.2)) = true := by decide +kernel
theorem c206_0 : pm_code 206 0 = some (.aload_n 0, 1) := pm_of cl206_0 0 (q := (0, .aload_n 0, 1)) rfl
theorem c206_1 : pm_code 206 1 = some (.iload_n 1, 2) := pm_of cl206_0 1 (q := (1, .iload_n 1, 2)) rfl
theorem c206_2 : pm_code 206 2 = some (.invokevirtual 221, 5) := pm_of cl206_0 2 (q := (2, .invokevirtual 221, 5)) rfl
theorem c206_5 : pm_code 206 5 = some (.aload_n 0, 6) := pm_of cl206_0 3 (q := (5, .aload_n 0, 6)) rfl
theorem c206_6 : pm_code 206 6 = some (.iload_n 2, 7) := pm_of cl206_0 4 (q := (6, .iload_n 2, 7)) rfl
theorem c206_7 : pm_code 206 7 = some (.ifCond .lt 13, 10) := pm_of cl206_0 5 (q := (7, .ifCond .lt 13, 10)) rfl
theorem c206_10 : pm_code 206 10 = some (.iload_n 2, 11) := pm_of cl206_0 6 (q := (10, .iload_n 2, 11)) rfl
theorem c206_11 : pm_code 206 11 = some (.bipush 99, 13) := pm_of cl206_0 7 (q := (11, .bipush 99, 13)) rfl
theorem c206_13 : pm_code 206 13 = some (.if_icmp .gt 7, 16) := pm_of cl206_0 8 (q := (13, .if_icmp .gt 7, 16)) rfl
theorem c206_16 : pm_code 206 16 = some (.iconst 1, 17) := pm_of cl206_0 9 (q := (16, .iconst 1, 17)) rfl
theorem c206_17 : pm_code 206 17 = some (.goto 4, 20) := pm_of cl206_0 10 (q := (17, .goto 4, 20)) rfl
theorem c206_20 : pm_code 206 20 = some (.iconst 0, 21) := pm_of cl206_0 11 (q := (20, .iconst 0, 21)) rfl
theorem c206_21 : pm_code 206 21 = some (.invokevirtual 134, 24) := pm_of cl206_0 12 (q := (21, .invokevirtual 134, 24)) rfl
theorem c206_24 : pm_code 206 24 = some (.aload_n 0, 25) := pm_of cl206_0 13 (q := (24, .aload_n 0, 25)) rfl
theorem c206_25 : pm_code 206 25 = some (.getfield 19, 28) := pm_of cl206_0 14 (q := (25, .getfield 19, 28)) rfl
theorem c206_28 : pm_code 206 28 = some (.iload_n 1, 29) := pm_of cl206_0 15 (q := (28, .iload_n 1, 29)) rfl
theorem c206_29 : pm_code 206 29 = some (.iload_n 2, 30) := pm_of cl206_0 16 (q := (29, .iload_n 2, 30)) rfl
theorem c206_30 : pm_code 206 30 = some (.invokevirtual 329, 33) := pm_of cl206_0 17 (q := (30, .invokevirtual 329, 33)) rfl
theorem c206_33 : pm_code 206 33 = some (.ireturn, 34) := pm_of cl206_0 18 (q := (33, .ireturn, 34)) rfl
theorem k207 : pm_k 207 = 11 := by decide +kernel
theorem ml207 : pm_ml 207 = 12 := by decide +kernel
theorem rt207 : pm_rt 207 = (some .int) := by decide +kernel
theorem hh207 : pm_hh 207 = [] := by decide +kernel
theorem rc207 : pm_cl 11 = (pm_y 207).cls := by decide +kernel
theorem cl207_0 : ([(0, .aload_n 0, 1), (1, .iload_n 1, 2), (2, .ifCond .lt 13, 5), (5, .iload_n 1, 6), (6, .bipush 20, 8), (8, .if_icmp .gt 7, 11), (11, .iconst 1, 12), (12, .goto 4, 15), (15, .iconst 0, 16), (16, .invokevirtual 134, 19), (19, .aload_n 0, 20), (20, .iload_n 2, 21), (21, .ifCond .lt 13, 24), (24, .iload_n 2, 25), (25, .bipush 99, 27), (27, .if_icmp .gt 7, 30), (30, .iconst 1, 31), (31, .goto 4, 34), (34, .iconst 0, 35), (35, .invokevirtual 134, 38), (38, .aload_n 0, 39), (39, .iload_n 3, 40), (40, .ifCond .lt 13, 43), (43, .iload_n 3, 44), (44, .bipush 99, 46), (46, .if_icmp .gt 7, 49), (49, .iconst 1, 50), (50, .goto 4, 53), (53, .iconst 0, 54), (54, .invokevirtual 134, 57), (57, .aload_n 0, 58), (58, .iload 4, 60), (60, .ifCond .lt 13, 63), (63, .iload 4, 65), (65, .iconst 2, 66), (66, .if_icmp .gt 7, 69), (69, .iconst 1, 70), (70, .goto 4, 73), (73, .iconst 0, 74), (74, .invokevirtual 134, 77)] : List (Nat × Instr × Nat)).all (fun q => decide (pm_code 207 q.1 = some q.2)) = true := by decide +kernel
theorem c207_0 : pm_code 207 0 = some (.aload_n 0, 1) := pm_of cl207_0 0 (q := (0, .aload_n 0, 1)) rfl
theorem c207_1 : pm_code 207 1 = some (.iload_n 1, 2) := pm_of cl207_0 1 (q := (1, .iload_n 1, 2)) rfl
theorem c207_2 : pm_code 207 2 = some (.ifCond .lt 13, 5) := pm_of cl207_0 2 (q := (2, .ifCond .lt 13, 5)) rfl
theorem c207_5 : pm_code 207 5 = some (.iload_n 1, 6) := pm_of cl207_0 3 (q := (5, .iload_n 1, 6)) rfl
theorem c207_6 : pm_code 207 6 = some (.bipush 20, 8) := pm_of cl207_0 4 (q := (6, .bipush 20, 8)) rfl
theorem c207_8 : pm_code 207 8 = some (.if_icmp .gt 7, 11) := pm_of cl207_0 5 (q := (8, .if_icmp .gt 7, 11)) rfl
theorem c207_11 : pm_code 207 11 = some (.iconst 1, 12) := pm_of cl207_0 6 (q := (11, .iconst 1, 12)) rfl
theorem c207_12 : pm_code 207 12 = some (.goto 4, 15) := pm_of cl207_0 7 (q := (12, .goto 4, 15)) rfl
theorem c207_15 : pm_code 207 15 = some (.iconst 0, 16) := pm_of cl207_0 8 (q := (15, .iconst 0, 16)) rfl
theorem c207_16 : pm_code 207 16 = some (.invokevirtual 134, 19) := pm_of cl207_0 9 (q := (16, .invokevirtual 134, 19)) rfl
theorem c207_19 : pm_code 207 19 = some (.aload_n 0, 20) := pm_of cl207_0 10 (q := (19, .aload_n 0, 20)) rfl
theorem c207_20 : pm_code 207 20 = some (.iload_n 2, 21) := pm_of cl207_0 11 (q := (20, .iload_n 2, 21)) rfl
theorem c207_21 : pm_code 207 21 = some (.ifCond .lt 13, 24) := pm_of cl207_0 12 (q := (21, .ifCond .lt 13, 24)) rfl
theorem c207_24 : pm_code 207 24 = some (.iload_n 2, 25) := pm_of cl207_0 13 (q := (24, .iload_n 2, 25)) rfl
theorem c207_25 : pm_code 207 25 = some (.bipush 99, 27) := pm_of cl207_0 14 (q := (25, .bipush 99, 27)) rfl
theorem c207_27 : pm_code 207 27 = some (.if_icmp .gt 7, 30) := pm_of cl207_0 15 (q := (27, .if_icmp .gt 7, 30)) rfl
theorem c207_30 : pm_code 207 30 = some (.iconst 1, 31) := pm_of cl207_0 16 (q := (30, .iconst 1, 31)) rfl
theorem c207_31 : pm_code 207 31 = some (.goto 4, 34) := pm_of cl207_0 17 (q := (31, .goto 4, 34)) rfl
theorem c207_34 : pm_code 207 34 = some (.iconst 0, 35) := pm_of cl207_0 18 (q := (34, .iconst 0, 35)) rfl
theorem c207_35 : pm_code 207 35 = some (.invokevirtual 134, 38) := pm_of cl207_0 19 (q := (35, .invokevirtual 134, 38)) rfl
theorem c207_38 : pm_code 207 38 = some (.aload_n 0, 39) := pm_of cl207_0 20 (q := (38, .aload_n 0, 39)) rfl
theorem c207_39 : pm_code 207 39 = some (.iload_n 3, 40) := pm_of cl207_0 21 (q := (39, .iload_n 3, 40)) rfl
theorem c207_40 : pm_code 207 40 = some (.ifCond .lt 13, 43) := pm_of cl207_0 22 (q := (40, .ifCond .lt 13, 43)) rfl
theorem c207_43 : pm_code 207 43 = some (.iload_n 3, 44) := pm_of cl207_0 23 (q := (43, .iload_n 3, 44)) rfl
theorem c207_44 : pm_code 207 44 = some (.bipush 99, 46) := pm_of cl207_0 24 (q := (44, .bipush 99, 46)) rfl
theorem c207_46 : pm_code 207 46 = some (.if_icmp .gt 7, 49) := pm_of cl207_0 25 (q := (46, .if_icmp .gt 7, 49)) rfl
theorem c207_49 : pm_code 207 49 = some (.iconst 1, 50) := pm_of cl207_0 26 (q := (49, .iconst 1, 50)) rfl
theorem c207_50 : pm_code 207 50 = some (.goto 4, 53) := pm_of cl207_0 27 (q := (50, .goto 4, 53)) rfl
theorem c207_53 : pm_code 207 53 = some (.iconst 0, 54) := pm_of cl207_0 28 (q := (53, .iconst 0, 54)) rfl
theorem c207_54 : pm_code 207 54 = some (.invokevirtual 134, 57) := pm_of cl207_0 29 (q := (54, .invokevirtual 134, 57)) rfl
theorem c207_57 : pm_code 207 57 = some (.aload_n 0, 58) := pm_of cl207_0 30 (q := (57, .aload_n 0, 58)) rfl
theorem c207_58 : pm_code 207 58 = some (.iload 4, 60) := pm_of cl207_0 31 (q := (58, .iload 4, 60)) rfl
theorem c207_60 : pm_code 207 60 = some (.ifCond .lt 13, 63) := pm_of cl207_0 32 (q := (60, .ifCond .lt 13, 63)) rfl
theorem c207_63 : pm_code 207 63 = some (.iload 4, 65) := pm_of cl207_0 33 (q := (63, .iload 4, 65)) rfl
theorem c207_65 : pm_code 207 65 = some (.iconst 2, 66) := pm_of cl207_0 34 (q := (65, .iconst 2, 66)) rfl
theorem c207_66 : pm_code 207 66 = some (.if_icmp .gt 7, 69) := pm_of cl207_0 35 (q := (66, .if_icmp .gt 7, 69)) rfl
theorem c207_69 : pm_code 207 69 = some (.iconst 1, 70) := pm_of cl207_0 36 (q := (69, .iconst 1, 70)) rfl
theorem c207_70 : pm_code 207 70 = some (.goto 4, 73) := pm_of cl207_0 37 (q := (70, .goto 4, 73)) rfl
theorem c207_73 : pm_code 207 73 = some (.iconst 0, 74) := pm_of cl207_0 38 (q := (73, .iconst 0, 74)) rfl
theorem c207_74 : pm_code 207 74 = some (.invokevirtual 134, 77) := pm_of cl207_0 39 (q := (74, .invokevirtual 134, 77)) rfl
theorem cl207_1 : ([(77, .iconst 0, 78), (78, .istore 5, 80), (80, .iconst (-1), 81), (81, .istore 6, 83), (83, .iconst 0, 84), (84, .istore 7, 86), (86, .iconst 0, 87), (87, .istore 8, 89), (89, .iload 8, 91), (91, .iload_n 1, 92), (92, .if_icmp .gt 93, 95), (95, .iconst 0, 96), (96, .istore 9, 98), (98, .iload 9, 100), (100, .iload_n 1, 101), (101, .if_icmp .gt 78, 104), (104, .iload 8, 106), (106, .iload 9, 108), (108, .iload_n 2, 109), (109, .invokestatic 332, 112), (112, .istore 10, 114), (114, .iload 9, 116), (116, .iload 8, 118), (118, .iload_n 3, 119), (119, .invokestatic 332, 122), (122, .istore 11, 124), (124, .iload 10, 126), (126, .iload_n 1, 127), (127, .iload 9, 129), (129, .iload_n 2, 130), (130, .invokestatic 335, 133), (133, .if_icmp .lt 40, 136), (136, .iload 11, 138), (138, .iload_n 1, 139), (139, .iload 8, 141), (141, .iload_n 3, 142), (142, .invokestatic 335, 145), (145, .if_icmp .lt 28, 148), (148, .iload 5, 150), (150, .ifCond .ne 20, 153)] : List (Nat × Instr × Nat)).all (fun q => decide (pm_code 207 q.1 = some q.2)) = true := by decide +kernel
theorem c207_77 : pm_code 207 77 = some (.iconst 0, 78) := pm_of cl207_1 0 (q := (77, .iconst 0, 78)) rfl
theorem c207_78 : pm_code 207 78 = some (.istore 5, 80) := pm_of cl207_1 1 (q := (78, .istore 5, 80)) rfl
theorem c207_80 : pm_code 207 80 = some (.iconst (-1), 81) := pm_of cl207_1 2 (q := (80, .iconst (-1), 81)) rfl
theorem c207_81 : pm_code 207 81 = some (.istore 6, 83) := pm_of cl207_1 3 (q := (81, .istore 6, 83)) rfl
theorem c207_83 : pm_code 207 83 = some (.iconst 0, 84) := pm_of cl207_1 4 (q := (83, .iconst 0, 84)) rfl
theorem c207_84 : pm_code 207 84 = some (.istore 7, 86) := pm_of cl207_1 5 (q := (84, .istore 7, 86)) rfl
theorem c207_86 : pm_code 207 86 = some (.iconst 0, 87) := pm_of cl207_1 6 (q := (86, .iconst 0, 87)) rfl
theorem c207_87 : pm_code 207 87 = some (.istore 8, 89) := pm_of cl207_1 7 (q := (87, .istore 8, 89)) rfl
theorem c207_89 : pm_code 207 89 = some (.iload 8, 91) := pm_of cl207_1 8 (q := (89, .iload 8, 91)) rfl
theorem c207_91 : pm_code 207 91 = some (.iload_n 1, 92) := pm_of cl207_1 9 (q := (91, .iload_n 1, 92)) rfl
theorem c207_92 : pm_code 207 92 = some (.if_icmp .gt 93, 95) := pm_of cl207_1 10 (q := (92, .if_icmp .gt 93, 95)) rfl
theorem c207_95 : pm_code 207 95 = some (.iconst 0, 96) := pm_of cl207_1 11 (q := (95, .iconst 0, 96)) rfl
theorem c207_96 : pm_code 207 96 = some (.istore 9, 98) := pm_of cl207_1 12 (q := (96, .istore 9, 98)) rfl
theorem c207_98 : pm_code 207 98 = some (.iload 9, 100) := pm_of cl207_1 13 (q := (98, .iload 9, 100)) rfl
theorem c207_100 : pm_code 207 100 = some (.iload_n 1, 101) := pm_of cl207_1 14 (q := (100, .iload_n 1, 101)) rfl
theorem c207_101 : pm_code 207 101 = some (.if_icmp .gt 78, 104) := pm_of cl207_1 15 (q := (101, .if_icmp .gt 78, 104)) rfl
theorem c207_104 : pm_code 207 104 = some (.iload 8, 106) := pm_of cl207_1 16 (q := (104, .iload 8, 106)) rfl
theorem c207_106 : pm_code 207 106 = some (.iload 9, 108) := pm_of cl207_1 17 (q := (106, .iload 9, 108)) rfl
theorem c207_108 : pm_code 207 108 = some (.iload_n 2, 109) := pm_of cl207_1 18 (q := (108, .iload_n 2, 109)) rfl
theorem c207_109 : pm_code 207 109 = some (.invokestatic 332, 112) := pm_of cl207_1 19 (q := (109, .invokestatic 332, 112)) rfl
theorem c207_112 : pm_code 207 112 = some (.istore 10, 114) := pm_of cl207_1 20 (q := (112, .istore 10, 114)) rfl
theorem c207_114 : pm_code 207 114 = some (.iload 9, 116) := pm_of cl207_1 21 (q := (114, .iload 9, 116)) rfl
theorem c207_116 : pm_code 207 116 = some (.iload 8, 118) := pm_of cl207_1 22 (q := (116, .iload 8, 118)) rfl
theorem c207_118 : pm_code 207 118 = some (.iload_n 3, 119) := pm_of cl207_1 23 (q := (118, .iload_n 3, 119)) rfl
theorem c207_119 : pm_code 207 119 = some (.invokestatic 332, 122) := pm_of cl207_1 24 (q := (119, .invokestatic 332, 122)) rfl
theorem c207_122 : pm_code 207 122 = some (.istore 11, 124) := pm_of cl207_1 25 (q := (122, .istore 11, 124)) rfl
theorem c207_124 : pm_code 207 124 = some (.iload 10, 126) := pm_of cl207_1 26 (q := (124, .iload 10, 126)) rfl
theorem c207_126 : pm_code 207 126 = some (.iload_n 1, 127) := pm_of cl207_1 27 (q := (126, .iload_n 1, 127)) rfl
theorem c207_127 : pm_code 207 127 = some (.iload 9, 129) := pm_of cl207_1 28 (q := (127, .iload 9, 129)) rfl
theorem c207_129 : pm_code 207 129 = some (.iload_n 2, 130) := pm_of cl207_1 29 (q := (129, .iload_n 2, 130)) rfl
theorem c207_130 : pm_code 207 130 = some (.invokestatic 335, 133) := pm_of cl207_1 30 (q := (130, .invokestatic 335, 133)) rfl
theorem c207_133 : pm_code 207 133 = some (.if_icmp .lt 40, 136) := pm_of cl207_1 31 (q := (133, .if_icmp .lt 40, 136)) rfl
theorem c207_136 : pm_code 207 136 = some (.iload 11, 138) := pm_of cl207_1 32 (q := (136, .iload 11, 138)) rfl
theorem c207_138 : pm_code 207 138 = some (.iload_n 1, 139) := pm_of cl207_1 33 (q := (138, .iload_n 1, 139)) rfl
theorem c207_139 : pm_code 207 139 = some (.iload 8, 141) := pm_of cl207_1 34 (q := (139, .iload 8, 141)) rfl
theorem c207_141 : pm_code 207 141 = some (.iload_n 3, 142) := pm_of cl207_1 35 (q := (141, .iload_n 3, 142)) rfl
theorem c207_142 : pm_code 207 142 = some (.invokestatic 335, 145) := pm_of cl207_1 36 (q := (142, .invokestatic 335, 145)) rfl
theorem c207_145 : pm_code 207 145 = some (.if_icmp .lt 28, 148) := pm_of cl207_1 37 (q := (145, .if_icmp .lt 28, 148)) rfl
theorem c207_148 : pm_code 207 148 = some (.iload 5, 150) := pm_of cl207_1 38 (q := (148, .iload 5, 150)) rfl
theorem c207_150 : pm_code 207 150 = some (.ifCond .ne 20, 153) := pm_of cl207_1 39 (q := (150, .ifCond .ne 20, 153)) rfl
theorem cl207_2 : ([(153, .bipush 100, 155), (155, .iload 8, 157), (157, .imul, 158), (158, .iload 9, 160), (160, .iadd, 161), (161, .istore 6, 163), (163, .iload 10, 165), (165, .iload 11, 167), (167, .iadd, 168), (168, .istore 7, 170), (170, .iinc 5 1, 173), (173, .iinc 9 1, 176), (176, .goto (-78), 179), (179, .iinc 8 1, 182), (182, .goto (-93), 185), (185, .iload 4, 187), (187, .lookupswitch 31 #[(0, 25), (1, 28)], 212), (212, .iload 5, 214), (214, .ireturn, 215), (215, .iload 6, 217), (217, .ireturn, 218), (218, .iload 7, 220), (220, .ireturn, 221)] : List (Nat × Instr × Nat)).all (fun q => decide (pm_code 207 q.1 = some q.2)) = true := by decide +kernel
theorem c207_153 : pm_code 207 153 = some (.bipush 100, 155) := pm_of cl207_2 0 (q := (153, .bipush 100, 155)) rfl
theorem c207_155 : pm_code 207 155 = some (.iload 8, 157) := pm_of cl207_2 1 (q := (155, .iload 8, 157)) rfl
theorem c207_157 : pm_code 207 157 = some (.imul, 158) := pm_of cl207_2 2 (q := (157, .imul, 158)) rfl
theorem c207_158 : pm_code 207 158 = some (.iload 9, 160) := pm_of cl207_2 3 (q := (158, .iload 9, 160)) rfl
theorem c207_160 : pm_code 207 160 = some (.iadd, 161) := pm_of cl207_2 4 (q := (160, .iadd, 161)) rfl
theorem c207_161 : pm_code 207 161 = some (.istore 6, 163) := pm_of cl207_2 5 (q := (161, .istore 6, 163)) rfl
theorem c207_163 : pm_code 207 163 = some (.iload 10, 165) := pm_of cl207_2 6 (q := (163, .iload 10, 165)) rfl
theorem c207_165 : pm_code 207 165 = some (.iload 11, 167) := pm_of cl207_2 7 (q := (165, .iload 11, 167)) rfl
theorem c207_167 : pm_code 207 167 = some (.iadd, 168) := pm_of cl207_2 8 (q := (167, .iadd, 168)) rfl
theorem c207_168 : pm_code 207 168 = some (.istore 7, 170) := pm_of cl207_2 9 (q := (168, .istore 7, 170)) rfl
theorem c207_170 : pm_code 207 170 = some (.iinc 5 1, 173) := pm_of cl207_2 10 (q := (170, .iinc 5 1, 173)) rfl
theorem c207_173 : pm_code 207 173 = some (.iinc 9 1, 176) := pm_of cl207_2 11 (q := (173, .iinc 9 1, 176)) rfl
theorem c207_176 : pm_code 207 176 = some (.goto (-78), 179) := pm_of cl207_2 12 (q := (176, .goto (-78), 179)) rfl
theorem c207_179 : pm_code 207 179 = some (.iinc 8 1, 182) := pm_of cl207_2 13 (q := (179, .iinc 8 1, 182)) rfl
theorem c207_182 : pm_code 207 182 = some (.goto (-93), 185) := pm_of cl207_2 14 (q := (182, .goto (-93), 185)) rfl
theorem c207_185 : pm_code 207 185 = some (.iload 4, 187) := pm_of cl207_2 15 (q := (185, .iload 4, 187)) rfl
theorem c207_187 : pm_code 207 187 = some (.lookupswitch 31 #[(0, 25), (1, 28)], 212) := pm_of cl207_2 16 (q := (187, .lookupswitch 31 #[(0, 25), (1, 28)], 212)) rfl
theorem c207_212 : pm_code 207 212 = some (.iload 5, 214) := pm_of cl207_2 17 (q := (212, .iload 5, 214)) rfl
theorem c207_214 : pm_code 207 214 = some (.ireturn, 215) := pm_of cl207_2 18 (q := (214, .ireturn, 215)) rfl
theorem c207_215 : pm_code 207 215 = some (.iload 6, 217) := pm_of cl207_2 19 (q := (215, .iload 6, 217)) rfl
theorem c207_217 : pm_code 207 217 = some (.ireturn, 218) := pm_of cl207_2 20 (q := (217, .ireturn, 218)) rfl
theorem c207_218 : pm_code 207 218 = some (.iload 7, 220) := pm_of cl207_2 21 (q := (218, .iload 7, 220)) rfl
theorem c207_220 : pm_code 207 220 = some (.ireturn, 221) := pm_of cl207_2 22 (q := (220, .ireturn, 221)) rfl
theorem k208 : pm_k 208 = 11 := by decide +kernel
theorem ml208 : pm_ml 208 = 3 := by decide +kernel
theorem rt208 : pm_rt 208 = (some .int) := by decide +kernel
theorem hh208 : pm_hh 208 = [] := by decide +kernel
theorem rc208 : pm_cl 11 = (pm_y 208).cls := by decide +kernel
theorem cl208_0 : ([(0, .iload_n 0, 1), (1, .iload_n 1, 2), (2, .if_icmp .ge 5, 5), (5, .iconst 0, 6), (6, .ireturn, 7), (7, .iload_n 0, 8), (8, .iload_n 1, 9), (9, .if_icmp .le 9, 12), (12, .iload_n 2, 13), (13, .iload_n 0, 14), (14, .isub, 15), (15, .goto 8, 18), (18, .iload_n 2, 19), (19, .iload_n 0, 20), (20, .isub, 21), (21, .iconst 2, 22), (22, .idiv, 23), (23, .ireturn, 24)] : List (Nat × Instr × Nat)).all (fun q => decide (pm_code 208 q.1 = some q.2)) = true := by decide +kernel
theorem c208_0 : pm_code 208 0 = some (.iload_n 0, 1) := pm_of cl208_0 0 (q := (0, .iload_n 0, 1)) rfl
theorem c208_1 : pm_code 208 1 = some (.iload_n 1, 2) := pm_of cl208_0 1 (q := (1, .iload_n 1, 2)) rfl
theorem c208_2 : pm_code 208 2 = some (.if_icmp .ge 5, 5) := pm_of cl208_0 2 (q := (2, .if_icmp .ge 5, 5)) rfl
theorem c208_5 : pm_code 208 5 = some (.iconst 0, 6) := pm_of cl208_0 3 (q := (5, .iconst 0, 6)) rfl
theorem c208_6 : pm_code 208 6 = some (.ireturn, 7) := pm_of cl208_0 4 (q := (6, .ireturn, 7)) rfl
theorem c208_7 : pm_code 208 7 = some (.iload_n 0, 8) := pm_of cl208_0 5 (q := (7, .iload_n 0, 8)) rfl
theorem c208_8 : pm_code 208 8 = some (.iload_n 1, 9) := pm_of cl208_0 6 (q := (8, .iload_n 1, 9)) rfl
theorem c208_9 : pm_code 208 9 = some (.if_icmp .le 9, 12) := pm_of cl208_0 7 (q := (9, .if_icmp .le 9, 12)) rfl
theorem c208_12 : pm_code 208 12 = some (.iload_n 2, 13) := pm_of cl208_0 8 (q := (12, .iload_n 2, 13)) rfl
theorem c208_13 : pm_code 208 13 = some (.iload_n 0, 14) := pm_of cl208_0 9 (q := (13, .iload_n 0, 14)) rfl
theorem c208_14 : pm_code 208 14 = some (.isub, 15) := pm_of cl208_0 10 (q := (14, .isub, 15)) rfl
theorem c208_15 : pm_code 208 15 = some (.goto 8, 18) := pm_of cl208_0 11 (q := (15, .goto 8, 18)) rfl
theorem c208_18 : pm_code 208 18 = some (.iload_n 2, 19) := pm_of cl208_0 12 (q := (18, .iload_n 2, 19)) rfl
theorem c208_19 : pm_code 208 19 = some (.iload_n 0, 20) := pm_of cl208_0 13 (q := (19, .iload_n 0, 20)) rfl
theorem c208_20 : pm_code 208 20 = some (.isub, 21) := pm_of cl208_0 14 (q := (20, .isub, 21)) rfl
theorem c208_21 : pm_code 208 21 = some (.iconst 2, 22) := pm_of cl208_0 15 (q := (21, .iconst 2, 22)) rfl
theorem c208_22 : pm_code 208 22 = some (.idiv, 23) := pm_of cl208_0 16 (q := (22, .idiv, 23)) rfl
theorem c208_23 : pm_code 208 23 = some (.ireturn, 24) := pm_of cl208_0 17 (q := (23, .ireturn, 24)) rfl
theorem k209 : pm_k 209 = 11 := by decide +kernel
theorem ml209 : pm_ml 209 = 4 := by decide +kernel
theorem rt209 : pm_rt 209 = (some .int) := by decide +kernel
theorem hh209 : pm_hh 209 = [] := by decide +kernel
theorem rc209 : pm_cl 11 = (pm_y 209).cls := by decide +kernel
theorem cl209_0 : ([(0, .iload_n 1, 1), (1, .iload_n 1, 2), (2, .iload_n 2, 3), (3, .invokestatic 332, 6), (6, .istore_n 3, 7), (7, .iload_n 1, 8), (8, .ifCond .le 9, 11), (11, .iload_n 3, 12), (12, .iconst 0, 13), (13, .invokestatic 259, 16), (16, .istore_n 3, 17), (17, .iload_n 1, 18), (18, .iload_n 0, 19), (19, .if_icmp .ge 16, 22), (22, .iload_n 3, 23), (23, .iload_n 1, 24), (24, .iconst 1, 25), (25, .iadd, 26), (26, .iload_n 1, 27), (27, .iload_n 2, 28), (28, .invokestatic 332, 31), (31, .invokestatic 259, 34), (34, .istore_n 3, 35), (35, .iload_n 3, 36), (36, .ireturn, 37)] : List (Nat × Instr × Nat)).all (fun q => decide (pm_code 209 q.1 = some q.2)) = true := by decide +kernel
theorem c209_0 : pm_code 209 0 = some (.iload_n 1, 1) := pm_of cl209_0 0 (q := (0, .iload_n 1, 1)) rfl
theorem c209_1 : pm_code 209 1 = some (.iload_n 1, 2) := pm_of cl209_0 1 (q := (1, .iload_n 1, 2)) rfl
theorem c209_2 : pm_code 209 2 = some (.iload_n 2, 3) := pm_of cl209_0 2 (q := (2, .iload_n 2, 3)) rfl
theorem c209_3 : pm_code 209 3 = some (.invokestatic 332, 6) := pm_of cl209_0 3 (q := (3, .invokestatic 332, 6)) rfl
theorem c209_6 : pm_code 209 6 = some (.istore_n 3, 7) := pm_of cl209_0 4 (q := (6, .istore_n 3, 7)) rfl
theorem c209_7 : pm_code 209 7 = some (.iload_n 1, 8) := pm_of cl209_0 5 (q := (7, .iload_n 1, 8)) rfl
theorem c209_8 : pm_code 209 8 = some (.ifCond .le 9, 11) := pm_of cl209_0 6 (q := (8, .ifCond .le 9, 11)) rfl
theorem c209_11 : pm_code 209 11 = some (.iload_n 3, 12) := pm_of cl209_0 7 (q := (11, .iload_n 3, 12)) rfl
theorem c209_12 : pm_code 209 12 = some (.iconst 0, 13) := pm_of cl209_0 8 (q := (12, .iconst 0, 13)) rfl
theorem c209_13 : pm_code 209 13 = some (.invokestatic 259, 16) := pm_of cl209_0 9 (q := (13, .invokestatic 259, 16)) rfl
theorem c209_16 : pm_code 209 16 = some (.istore_n 3, 17) := pm_of cl209_0 10 (q := (16, .istore_n 3, 17)) rfl
theorem c209_17 : pm_code 209 17 = some (.iload_n 1, 18) := pm_of cl209_0 11 (q := (17, .iload_n 1, 18)) rfl
theorem c209_18 : pm_code 209 18 = some (.iload_n 0, 19) := pm_of cl209_0 12 (q := (18, .iload_n 0, 19)) rfl
theorem c209_19 : pm_code 209 19 = some (.if_icmp .ge 16, 22) := pm_of cl209_0 13 (q := (19, .if_icmp .ge 16, 22)) rfl
theorem c209_22 : pm_code 209 22 = some (.iload_n 3, 23) := pm_of cl209_0 14 (q := (22, .iload_n 3, 23)) rfl
theorem c209_23 : pm_code 209 23 = some (.iload_n 1, 24) := pm_of cl209_0 15 (q := (23, .iload_n 1, 24)) rfl
theorem c209_24 : pm_code 209 24 = some (.iconst 1, 25) := pm_of cl209_0 16 (q := (24, .iconst 1, 25)) rfl
theorem c209_25 : pm_code 209 25 = some (.iadd, 26) := pm_of cl209_0 17 (q := (25, .iadd, 26)) rfl
theorem c209_26 : pm_code 209 26 = some (.iload_n 1, 27) := pm_of cl209_0 18 (q := (26, .iload_n 1, 27)) rfl
theorem c209_27 : pm_code 209 27 = some (.iload_n 2, 28) := pm_of cl209_0 19 (q := (27, .iload_n 2, 28)) rfl
theorem c209_28 : pm_code 209 28 = some (.invokestatic 332, 31) := pm_of cl209_0 20 (q := (28, .invokestatic 332, 31)) rfl
theorem c209_31 : pm_code 209 31 = some (.invokestatic 259, 34) := pm_of cl209_0 21 (q := (31, .invokestatic 259, 34)) rfl
theorem c209_34 : pm_code 209 34 = some (.istore_n 3, 35) := pm_of cl209_0 22 (q := (34, .istore_n 3, 35)) rfl
theorem c209_35 : pm_code 209 35 = some (.iload_n 3, 36) := pm_of cl209_0 23 (q := (35, .iload_n 3, 36)) rfl
theorem c209_36 : pm_code 209 36 = some (.ireturn, 37) := pm_of cl209_0 24 (q := (36, .ireturn, 37)) rfl
theorem k210 : pm_k 210 = 11 := by decide +kernel
theorem ml210 : pm_ml 210 = 4 := by decide +kernel
theorem rt210 : pm_rt 210 = (some .int) := by decide +kernel
theorem hh210 : pm_hh 210 = [] := by decide +kernel
theorem rc210 : pm_cl 11 = (pm_y 210).cls := by decide +kernel
theorem cl210_0 : ([(0, .aload_n 0, 1), (1, .iload_n 1, 2), (2, .ifCond .lt 13, 5), (5, .iload_n 1, 6), (6, .bipush 99, 8), (8, .if_icmp .gt 7, 11), (11, .iconst 1, 12), (12, .goto 4, 15), (15, .iconst 0, 16), (16, .invokevirtual 134, 19), (19, .aload_n 0, 20), (20, .iload_n 2, 21), (21, .ifCond .lt 13, 24), (24, .iload_n 2, 25), (25, .bipush 99, 27), (27, .if_icmp .gt 7, 30), (30, .iconst 1, 31), (31, .goto 4, 34), (34, .iconst 0, 35), (35, .invokevirtual 134, 38), (38, .aload_n 0, 39), (39, .iload_n 3, 40), (40, .ifCond .lt 13, 43), (43, .iload_n 3, 44), (44, .bipush 99, 46), (46, .if_icmp .gt 7, 49), (49, .iconst 1, 50), (50, .goto 4, 53), (53, .iconst 0, 54), (54, .invokevirtual 134, 57), (57, .iload_n 1, 58), (58, .iload_n 2, 59), (59, .iload_n 3, 60), (60, .invokestatic 332, 63), (63, .ireturn, 64)] : List (Nat × Instr × Nat)).all (fun q => decide (pm_code 210 q.1 = some q.2)) = true := by decide +kernel
theorem c210_0 : pm_code 210 0 = some (.aload_n 0, 1) := pm_of cl210_0 0 (q := (0, .aload_n 0, 1)) rfl
theorem c210_1 : pm_code 210 1 = some (.iload_n 1, 2) := pm_of cl210_0 1 (q := (1, .iload_n 1, 2)) rfl
theorem c210_2 : pm_code 210 2 = some (.ifCond .lt 13, 5) := pm_of cl210_0 2 (q := (2, .ifCond .lt 13, 5)) rfl
theorem c210_5 : pm_code 210 5 = some (.iload_n 1, 6) := pm_of cl210_0 3 (q := (5, .iload_n 1, 6)) rfl
theorem c210_6 : pm_code 210 6 = some (.bipush 99, 8) := pm_of cl210_0 4 (q := (6, .bipush 99, 8)) rfl
theorem c210_8 : pm_code 210 8 = some (.if_icmp .gt 7, 11) := pm_of cl210_0 5 (q := (8, .if_icmp .gt 7, 11)) rfl
theorem c210_11 : pm_code 210 11 = some (.iconst 1, 12) := pm_of cl210_0 6 (q := (11, .iconst 1, 12)) rfl
theorem c210_12 : pm_code 210 12 = some (.goto 4, 15) := pm_of cl210_0 7 (q := (12, .goto 4, 15)) rfl
theorem c210_15 : pm_code 210 15 = some (.iconst 0, 16) := pm_of cl210_0 8 (q := (15, .iconst 0, 16)) rfl
theorem c210_16 : pm_code 210 16 = some (.invokevirtual 134, 19) := pm_of cl210_0 9 (q := (16, .invokevirtual 134, 19)) rfl
theorem c210_19 : pm_code 210 19 = some (.aload_n 0, 20) := pm_of cl210_0 10 (q := (19, .aload_n 0, 20)) rfl
theorem c210_20 : pm_code 210 20 = some (.iload_n 2, 21) := pm_of cl210_0 11 (q := (20, .iload_n 2, 21)) rfl
theorem c210_21 : pm_code 210 21 = some (.ifCond .lt 13, 24) := pm_of cl210_0 12 (q := (21, .ifCond .lt 13, 24)) rfl
theorem c210_24 : pm_code 210 24 = some (.iload_n 2, 25) := pm_of cl210_0 13 (q := (24, .iload_n 2, 25)) rfl
theorem c210_25 : pm_code 210 25 = some (.bipush 99, 27) := pm_of cl210_0 14 (q := (25, .bipush 99, 27)) rfl
theorem c210_27 : pm_code 210 27 = some (.if_icmp .gt 7, 30) := pm_of cl210_0 15 (q := (27, .if_icmp .gt 7, 30)) rfl
theorem c210_30 : pm_code 210 30 = some (.iconst 1, 31) := pm_of cl210_0 16 (q := (30, .iconst 1, 31)) rfl
theorem c210_31 : pm_code 210 31 = some (.goto 4, 34) := pm_of cl210_0 17 (q := (31, .goto 4, 34)) rfl
theorem c210_34 : pm_code 210 34 = some (.iconst 0, 35) := pm_of cl210_0 18 (q := (34, .iconst 0, 35)) rfl
theorem c210_35 : pm_code 210 35 = some (.invokevirtual 134, 38) := pm_of cl210_0 19 (q := (35, .invokevirtual 134, 38)) rfl
theorem c210_38 : pm_code 210 38 = some (.aload_n 0, 39) := pm_of cl210_0 20 (q := (38, .aload_n 0, 39)) rfl
theorem c210_39 : pm_code 210 39 = some (.iload_n 3, 40) := pm_of cl210_0 21 (q := (39, .iload_n 3, 40)) rfl
theorem c210_40 : pm_code 210 40 = some (.ifCond .lt 13, 43) := pm_of cl210_0 22 (q := (40, .ifCond .lt 13, 43)) rfl
theorem c210_43 : pm_code 210 43 = some (.iload_n 3, 44) := pm_of cl210_0 23 (q := (43, .iload_n 3, 44)) rfl
theorem c210_44 : pm_code 210 44 = some (.bipush 99, 46) := pm_of cl210_0 24 (q := (44, .bipush 99, 46)) rfl
theorem c210_46 : pm_code 210 46 = some (.if_icmp .gt 7, 49) := pm_of cl210_0 25 (q := (46, .if_icmp .gt 7, 49)) rfl
theorem c210_49 : pm_code 210 49 = some (.iconst 1, 50) := pm_of cl210_0 26 (q := (49, .iconst 1, 50)) rfl
theorem c210_50 : pm_code 210 50 = some (.goto 4, 53) := pm_of cl210_0 27 (q := (50, .goto 4, 53)) rfl
theorem c210_53 : pm_code 210 53 = some (.iconst 0, 54) := pm_of cl210_0 28 (q := (53, .iconst 0, 54)) rfl
theorem c210_54 : pm_code 210 54 = some (.invokevirtual 134, 57) := pm_of cl210_0 29 (q := (54, .invokevirtual 134, 57)) rfl
theorem c210_57 : pm_code 210 57 = some (.iload_n 1, 58) := pm_of cl210_0 30 (q := (57, .iload_n 1, 58)) rfl
theorem c210_58 : pm_code 210 58 = some (.iload_n 2, 59) := pm_of cl210_0 31 (q := (58, .iload_n 2, 59)) rfl
theorem c210_59 : pm_code 210 59 = some (.iload_n 3, 60) := pm_of cl210_0 32 (q := (59, .iload_n 3, 60)) rfl
theorem c210_60 : pm_code 210 60 = some (.invokestatic 332, 63) := pm_of cl210_0 33 (q := (60, .invokestatic 332, 63)) rfl
theorem c210_63 : pm_code 210 63 = some (.ireturn, 64) := pm_of cl210_0 34 (q := (63, .ireturn, 64)) rfl
theorem k211 : pm_k 211 = 11 := by decide +kernel
theorem ml211 : pm_ml 211 = 6 := by decide +kernel
theorem rt211 : pm_rt 211 = (some .int) := by decide +kernel
theorem hh211 : pm_hh 211 = [] := by decide +kernel
theorem rc211 : pm_cl 11 = (pm_y 211).cls := by decide +kernel
theorem cl211_0 : ([(0, .aload_n 0, 1), (1, .iload_n 2, 2), (2, .iload_n 3, 3), (3, .iload 4, 5), (5, .invokestatic 338, 8), (8, .invokevirtual 134, 11), (11, .aload_n 0, 12), (12, .iload 5, 14), (14, .ifCond .lt 13, 17), (17, .iload 5, 19), (19, .iconst 3, 20), (20, .if_icmp .gt 7, 23), (23, .iconst 1, 24), (24, .goto 4, 27), (27, .iconst 0, 28), (28, .invokevirtual 134, 31), (31, .iload 5, 33), (33, .iconst 3, 34), (34, .if_icmp .ne 13, 37), (37, .aload_n 0, 38), (38, .getfield 19, 41), (41, .iload 4, 43), (43, .invokevirtual 253, 46), (46, .ireturn, 47), (47, .aload_n 0, 48), (48, .getfield 61, 51), (51, .aload_n 0, 52), (52, .getfield 19, 55), (55, .iload_n 1, 56), (56, .iload_n 2, 57), (57, .iload_n 3, 58), (58, .iload 4, 60), (60, .invokevirtual 342, 63), (63, .iload 5, 65), (65, .lookupswitch 43 #[(0, 27), (1, 35)], 92), (92, .aload_n 0, 93), (93, .getfield 61, 96), (96, .invokevirtual 346, 99), (99, .ireturn, 100), (100, .aload_n 0, 101)] : List (Nat × Instr × Nat)).all (fun q => decide (pm_code 211 q.1 = some q.2)) = true := by decide +kernel
theorem c211_0 : pm_code 211 0 = some (.aload_n 0, 1) := pm_of cl211_0 0 (q := (0, .aload_n 0, 1)) rfl
theorem c211_1 : pm_code 211 1 = some (.iload_n 2, 2) := pm_of cl211_0 1 (q := (1, .iload_n 2, 2)) rfl
theorem c211_2 : pm_code 211 2 = some (.iload_n 3, 3) := pm_of cl211_0 2 (q := (2, .iload_n 3, 3)) rfl
theorem c211_3 : pm_code 211 3 = some (.iload 4, 5) := pm_of cl211_0 3 (q := (3, .iload 4, 5)) rfl
theorem c211_5 : pm_code 211 5 = some (.invokestatic 338, 8) := pm_of cl211_0 4 (q := (5, .invokestatic 338, 8)) rfl
theorem c211_8 : pm_code 211 8 = some (.invokevirtual 134, 11) := pm_of cl211_0 5 (q := (8, .invokevirtual 134, 11)) rfl
theorem c211_11 : pm_code 211 11 = some (.aload_n 0, 12) := pm_of cl211_0 6 (q := (11, .aload_n 0, 12)) rfl
theorem c211_12 : pm_code 211 12 = some (.iload 5, 14) := pm_of cl211_0 7 (q := (12, .iload 5, 14)) rfl
theorem c211_14 : pm_code 211 14 = some (.ifCond .lt 13, 17) := pm_of cl211_0 8 (q := (14, .ifCond .lt 13, 17)) rfl
theorem c211_17 : pm_code 211 17 = some (.iload 5, 19) := pm_of cl211_0 9 (q := (17, .iload 5, 19)) rfl
theorem c211_19 : pm_code 211 19 = some (.iconst 3, 20) := pm_of cl211_0 10 (q := (19, .iconst 3, 20)) rfl
theorem c211_20 : pm_code 211 20 = some (.if_icmp .gt 7, 23) := pm_of cl211_0 11 (q := (20, .if_icmp .gt 7, 23)) rfl
theorem c211_23 : pm_code 211 23 = some (.iconst 1, 24) := pm_of cl211_0 12 (q := (23, .iconst 1, 24)) rfl
theorem c211_24 : pm_code 211 24 = some (.goto 4, 27) := pm_of cl211_0 13 (q := (24, .goto 4, 27)) rfl
theorem c211_27 : pm_code 211 27 = some (.iconst 0, 28) := pm_of cl211_0 14 (q := (27, .iconst 0, 28)) rfl
theorem c211_28 : pm_code 211 28 = some (.invokevirtual 134, 31) := pm_of cl211_0 15 (q := (28, .invokevirtual 134, 31)) rfl
theorem c211_31 : pm_code 211 31 = some (.iload 5, 33) := pm_of cl211_0 16 (q := (31, .iload 5, 33)) rfl
theorem c211_33 : pm_code 211 33 = some (.iconst 3, 34) := pm_of cl211_0 17 (q := (33, .iconst 3, 34)) rfl
theorem c211_34 : pm_code 211 34 = some (.if_icmp .ne 13, 37) := pm_of cl211_0 18 (q := (34, .if_icmp .ne 13, 37)) rfl
theorem c211_37 : pm_code 211 37 = some (.aload_n 0, 38) := pm_of cl211_0 19 (q := (37, .aload_n 0, 38)) rfl
theorem c211_38 : pm_code 211 38 = some (.getfield 19, 41) := pm_of cl211_0 20 (q := (38, .getfield 19, 41)) rfl
theorem c211_41 : pm_code 211 41 = some (.iload 4, 43) := pm_of cl211_0 21 (q := (41, .iload 4, 43)) rfl
theorem c211_43 : pm_code 211 43 = some (.invokevirtual 253, 46) := pm_of cl211_0 22 (q := (43, .invokevirtual 253, 46)) rfl
theorem c211_46 : pm_code 211 46 = some (.ireturn, 47) := pm_of cl211_0 23 (q := (46, .ireturn, 47)) rfl
theorem c211_47 : pm_code 211 47 = some (.aload_n 0, 48) := pm_of cl211_0 24 (q := (47, .aload_n 0, 48)) rfl
theorem c211_48 : pm_code 211 48 = some (.getfield 61, 51) := pm_of cl211_0 25 (q := (48, .getfield 61, 51)) rfl
theorem c211_51 : pm_code 211 51 = some (.aload_n 0, 52) := pm_of cl211_0 26 (q := (51, .aload_n 0, 52)) rfl
theorem c211_52 : pm_code 211 52 = some (.getfield 19, 55) := pm_of cl211_0 27 (q := (52, .getfield 19, 55)) rfl
theorem c211_55 : pm_code 211 55 = some (.iload_n 1, 56) := pm_of cl211_0 28 (q := (55, .iload_n 1, 56)) rfl
theorem c211_56 : pm_code 211 56 = some (.iload_n 2, 57) := pm_of cl211_0 29 (q := (56, .iload_n 2, 57)) rfl
theorem c211_57 : pm_code 211 57 = some (.iload_n 3, 58) := pm_of cl211_0 30 (q := (57, .iload_n 3, 58)) rfl
theorem c211_58 : pm_code 211 58 = some (.iload 4, 60) := pm_of cl211_0 31 (q := (58, .iload 4, 60)) rfl
theorem c211_60 : pm_code 211 60 = some (.invokevirtual 342, 63) := pm_of cl211_0 32 (q := (60, .invokevirtual 342, 63)) rfl
theorem c211_63 : pm_code 211 63 = some (.iload 5, 65) := pm_of cl211_0 33 (q := (63, .iload 5, 65)) rfl
theorem c211_65 : pm_code 211 65 = some (.lookupswitch 43 #[(0, 27), (1, 35)], 92) := pm_of cl211_0 34 (q := (65, .lookupswitch 43 #[(0, 27), (1, 35)], 92)) rfl
theorem c211_92 : pm_code 211 92 = some (.aload_n 0, 93) := pm_of cl211_0 35 (q := (92, .aload_n 0, 93)) rfl
theorem c211_93 : pm_code 211 93 = some (.getfield 61, 96) := pm_of cl211_0 36 (q := (93, .getfield 61, 96)) rfl
theorem c211_96 : pm_code 211 96 = some (.invokevirtual 346, 99) := pm_of cl211_0 37 (q := (96, .invokevirtual 346, 99)) rfl
theorem c211_99 : pm_code 211 99 = some (.ireturn, 100) := pm_of cl211_0 38 (q := (99, .ireturn, 100)) rfl
theorem c211_100 : pm_code 211 100 = some (.aload_n 0, 101) := pm_of cl211_0 39 (q := (100, .aload_n 0, 101)) rfl
theorem cl211_1 : ([(101, .getfield 61, 104), (104, .invokevirtual 349, 107), (107, .ireturn, 108), (108, .aload_n 0, 109), (109, .getfield 61, 112), (112, .invokevirtual 352, 115), (115, .ireturn, 116)] : List (Nat × Instr × Nat)).all (fun q => decide (pm_code 211 q.1 = some q.2)) = true := by decide +kernel
theorem c211_101 : pm_code 211 101 = some (.getfield 61, 104) := pm_of cl211_1 0 (q := (101, .getfield 61, 104)) rfl
theorem c211_104 : pm_code 211 104 = some (.invokevirtual 349, 107) := pm_of cl211_1 1 (q := (104, .invokevirtual 349, 107)) rfl
theorem c211_107 : pm_code 211 107 = some (.ireturn, 108) := pm_of cl211_1 2 (q := (107, .ireturn, 108)) rfl
theorem c211_108 : pm_code 211 108 = some (.aload_n 0, 109) := pm_of cl211_1 3 (q := (108, .aload_n 0, 109)) rfl
theorem c211_109 : pm_code 211 109 = some (.getfield 61, 112) := pm_of cl211_1 4 (q := (109, .getfield 61, 112)) rfl
theorem c211_112 : pm_code 211 112 = some (.invokevirtual 352, 115) := pm_of cl211_1 5 (q := (112, .invokevirtual 352, 115)) rfl
theorem c211_115 : pm_code 211 115 = some (.ireturn, 116) := pm_of cl211_1 6 (q := (115, .ireturn, 116)) rfl
theorem k212 : pm_k 212 = 11 := by decide +kernel
theorem ml212 : pm_ml 212 = 3 := by decide +kernel
theorem rt212 : pm_rt 212 = (some .boolean) := by decide +kernel
theorem hh212 : pm_hh 212 = [] := by decide +kernel
theorem rc212 : pm_cl 11 = (pm_y 212).cls := by decide +kernel
theorem cl212_0 : ([(0, .iload_n 0, 1), (1, .ifCond .lt 34, 4), (4, .iload_n 0, 5), (5, .bipush 16, 7), (7, .if_icmp .gt 28, 10), (10, .iload_n 1, 11), (11, .ifCond .lt 24, 14), (14, .iload_n 1, 15), (15, .bipush 40, 17), (17, .if_icmp .gt 18, 20), (20, .iload_n 2, 21), (21, .iconst 1, 22), (22, .if_icmp .lt 13, 25), (25, .iload_n 2, 26), (26, .bipush 99, 28), (28, .if_icmp .gt 7, 31), (31, .iconst 1, 32), (32, .goto 4, 35), (35, .iconst 0, 36), (36, .ireturn, 37)] : List (Nat × Instr × Nat)).all (fun q => decide (pm_code 212 q.1 = some q.2)) = true := by decide +kernel
theorem c212_0 : pm_code 212 0 = some (.iload_n 0, 1) := pm_of cl212_0 0 (q := (0, .iload_n 0, 1)) rfl
theorem c212_1 : pm_code 212 1 = some (.ifCond .lt 34, 4) := pm_of cl212_0 1 (q := (1, .ifCond .lt 34, 4)) rfl
theorem c212_4 : pm_code 212 4 = some (.iload_n 0, 5) := pm_of cl212_0 2 (q := (4, .iload_n 0, 5)) rfl
theorem c212_5 : pm_code 212 5 = some (.bipush 16, 7) := pm_of cl212_0 3 (q := (5, .bipush 16, 7)) rfl
theorem c212_7 : pm_code 212 7 = some (.if_icmp .gt 28, 10) := pm_of cl212_0 4 (q := (7, .if_icmp .gt 28, 10)) rfl
theorem c212_10 : pm_code 212 10 = some (.iload_n 1, 11) := pm_of cl212_0 5 (q := (10, .iload_n 1, 11)) rfl
theorem c212_11 : pm_code 212 11 = some (.ifCond .lt 24, 14) := pm_of cl212_0 6 (q := (11, .ifCond .lt 24, 14)) rfl
theorem c212_14 : pm_code 212 14 = some (.iload_n 1, 15) := pm_of cl212_0 7 (q := (14, .iload_n 1, 15)) rfl
theorem c212_15 : pm_code 212 15 = some (.bipush 40, 17) := pm_of cl212_0 8 (q := (15, .bipush 40, 17)) rfl
theorem c212_17 : pm_code 212 17 = some (.if_icmp .gt 18, 20) := pm_of cl212_0 9 (q := (17, .if_icmp .gt 18, 20)) rfl
theorem c212_20 : pm_code 212 20 = some (.iload_n 2, 21) := pm_of cl212_0 10 (q := (20, .iload_n 2, 21)) rfl
theorem c212_21 : pm_code 212 21 = some (.iconst 1, 22) := pm_of cl212_0 11 (q := (21, .iconst 1, 22)) rfl
theorem c212_22 : pm_code 212 22 = some (.if_icmp .lt 13, 25) := pm_of cl212_0 12 (q := (22, .if_icmp .lt 13, 25)) rfl
theorem c212_25 : pm_code 212 25 = some (.iload_n 2, 26) := pm_of cl212_0 13 (q := (25, .iload_n 2, 26)) rfl
theorem c212_26 : pm_code 212 26 = some (.bipush 99, 28) := pm_of cl212_0 14 (q := (26, .bipush 99, 28)) rfl
theorem c212_28 : pm_code 212 28 = some (.if_icmp .gt 7, 31) := pm_of cl212_0 15 (q := (28, .if_icmp .gt 7, 31)) rfl
theorem c212_31 : pm_code 212 31 = some (.iconst 1, 32) := pm_of cl212_0 16 (q := (31, .iconst 1, 32)) rfl
theorem c212_32 : pm_code 212 32 = some (.goto 4, 35) := pm_of cl212_0 17 (q := (32, .goto 4, 35)) rfl
theorem c212_35 : pm_code 212 35 = some (.iconst 0, 36) := pm_of cl212_0 18 (q := (35, .iconst 0, 36)) rfl
theorem c212_36 : pm_code 212 36 = some (.ireturn, 37) := pm_of cl212_0 19 (q := (36, .ireturn, 37)) rfl
theorem k213 : pm_k 213 = 11 := by decide +kernel
theorem ml213 : pm_ml 213 = 11 := by decide +kernel
theorem rt213 : pm_rt 213 = (some .int) := by decide +kernel
theorem hh213 : pm_hh 213 = [] := by decide +kernel
theorem rc213 : pm_cl 11 = (pm_y 213).cls := by decide +kernel
theorem cl213_0 : ([(0, .aload_n 0, 1), (1, .iload_n 2, 2), (2, .iconst 1, 3), (3, .if_icmp .lt 13, 6), (6, .iload_n 2, 7), (7, .bipush 20, 9), (9, .if_icmp .gt 7, 12), (12, .iconst 1, 13), (13, .goto 4, 16), (16, .iconst 0, 17), (17, .invokevirtual 134, 20), (20, .aload_n 0, 21), (21, .iload_n 3, 22), (22, .iload 4, 24), (24, .iload 5, 26), (26, .invokestatic 338, 29), (29, .invokevirtual 134, 32), (32, .aload_n 0, 33), (33, .iload 6, 35), (35, .ifCond .lt 13, 38), (38, .iload 6, 40), (40, .iconst 2, 41), (41, .if_icmp .gt 7, 44), (44, .iconst 1, 45), (45, .goto 4, 48), (48, .iconst 0, 49), (49, .invokevirtual 134, 52), (52, .iconst 0, 53), (53, .istore 7, 55), (55, .iconst 0, 56), (56, .istore 8, 58), (58, .iconst 0, 59), (59, .istore 9, 61), (61, .iconst 0, 62), (62, .istore 10, 64), (64, .iload 10, 66), (66, .iload_n 2, 67), (67, .if_icmp .ge 85, 70), (70, .aload_n 0, 71), (71, .getfield 61, 74)] : List (Nat × Instr × Nat)).all (fun q => decide (pm_code 213 q.1 = some q.2)) = true := by decide +kernel
theorem c213_0 : pm_code 213 0 = some (.aload_n 0, 1) := pm_of cl213_0 0 (q := (0, .aload_n 0, 1)) rfl
theorem c213_1 : pm_code 213 1 = some (.iload_n 2, 2) := pm_of cl213_0 1 (q := (1, .iload_n 2, 2)) rfl
theorem c213_2 : pm_code 213 2 = some (.iconst 1, 3) := pm_of cl213_0 2 (q := (2, .iconst 1, 3)) rfl
theorem c213_3 : pm_code 213 3 = some (.if_icmp .lt 13, 6) := pm_of cl213_0 3 (q := (3, .if_icmp .lt 13, 6)) rfl
theorem c213_6 : pm_code 213 6 = some (.iload_n 2, 7) := pm_of cl213_0 4 (q := (6, .iload_n 2, 7)) rfl
theorem c213_7 : pm_code 213 7 = some (.bipush 20, 9) := pm_of cl213_0 5 (q := (7, .bipush 20, 9)) rfl
theorem c213_9 : pm_code 213 9 = some (.if_icmp .gt 7, 12) := pm_of cl213_0 6 (q := (9, .if_icmp .gt 7, 12)) rfl
theorem c213_12 : pm_code 213 12 = some (.iconst 1, 13) := pm_of cl213_0 7 (q := (12, .iconst 1, 13)) rfl
theorem c213_13 : pm_code 213 13 = some (.goto 4, 16) := pm_of cl213_0 8 (q := (13, .goto 4, 16)) rfl
theorem c213_16 : pm_code 213 16 = some (.iconst 0, 17) := pm_of cl213_0 9 (q := (16, .iconst 0, 17)) rfl
theorem c213_17 : pm_code 213 17 = some (.invokevirtual 134, 20) := pm_of cl213_0 10 (q := (17, .invokevirtual 134, 20)) rfl
theorem c213_20 : pm_code 213 20 = some (.aload_n 0, 21) := pm_of cl213_0 11 (q := (20, .aload_n 0, 21)) rfl
theorem c213_21 : pm_code 213 21 = some (.iload_n 3, 22) := pm_of cl213_0 12 (q := (21, .iload_n 3, 22)) rfl
theorem c213_22 : pm_code 213 22 = some (.iload 4, 24) := pm_of cl213_0 13 (q := (22, .iload 4, 24)) rfl
theorem c213_24 : pm_code 213 24 = some (.iload 5, 26) := pm_of cl213_0 14 (q := (24, .iload 5, 26)) rfl
theorem c213_26 : pm_code 213 26 = some (.invokestatic 338, 29) := pm_of cl213_0 15 (q := (26, .invokestatic 338, 29)) rfl
theorem c213_29 : pm_code 213 29 = some (.invokevirtual 134, 32) := pm_of cl213_0 16 (q := (29, .invokevirtual 134, 32)) rfl
theorem c213_32 : pm_code 213 32 = some (.aload_n 0, 33) := pm_of cl213_0 17 (q := (32, .aload_n 0, 33)) rfl
theorem c213_33 : pm_code 213 33 = some (.iload 6, 35) := pm_of cl213_0 18 (q := (33, .iload 6, 35)) rfl
theorem c213_35 : pm_code 213 35 = some (.ifCond .lt 13, 38) := pm_of cl213_0 19 (q := (35, .ifCond .lt 13, 38)) rfl
theorem c213_38 : pm_code 213 38 = some (.iload 6, 40) := pm_of cl213_0 20 (q := (38, .iload 6, 40)) rfl
theorem c213_40 : pm_code 213 40 = some (.iconst 2, 41) := pm_of cl213_0 21 (q := (40, .iconst 2, 41)) rfl
theorem c213_41 : pm_code 213 41 = some (.if_icmp .gt 7, 44) := pm_of cl213_0 22 (q := (41, .if_icmp .gt 7, 44)) rfl
theorem c213_44 : pm_code 213 44 = some (.iconst 1, 45) := pm_of cl213_0 23 (q := (44, .iconst 1, 45)) rfl
theorem c213_45 : pm_code 213 45 = some (.goto 4, 48) := pm_of cl213_0 24 (q := (45, .goto 4, 48)) rfl
theorem c213_48 : pm_code 213 48 = some (.iconst 0, 49) := pm_of cl213_0 25 (q := (48, .iconst 0, 49)) rfl
theorem c213_49 : pm_code 213 49 = some (.invokevirtual 134, 52) := pm_of cl213_0 26 (q := (49, .invokevirtual 134, 52)) rfl
theorem c213_52 : pm_code 213 52 = some (.iconst 0, 53) := pm_of cl213_0 27 (q := (52, .iconst 0, 53)) rfl
theorem c213_53 : pm_code 213 53 = some (.istore 7, 55) := pm_of cl213_0 28 (q := (53, .istore 7, 55)) rfl
theorem c213_55 : pm_code 213 55 = some (.iconst 0, 56) := pm_of cl213_0 29 (q := (55, .iconst 0, 56)) rfl
theorem c213_56 : pm_code 213 56 = some (.istore 8, 58) := pm_of cl213_0 30 (q := (56, .istore 8, 58)) rfl
theorem c213_58 : pm_code 213 58 = some (.iconst 0, 59) := pm_of cl213_0 31 (q := (58, .iconst 0, 59)) rfl
theorem c213_59 : pm_code 213 59 = some (.istore 9, 61) := pm_of cl213_0 32 (q := (59, .istore 9, 61)) rfl
theorem c213_61 : pm_code 213 61 = some (.iconst 0, 62) := pm_of cl213_0 33 (q := (61, .iconst 0, 62)) rfl
theorem c213_62 : pm_code 213 62 = some (.istore 10, 64) := pm_of cl213_0 34 (q := (62, .istore 10, 64)) rfl
theorem c213_64 : pm_code 213 64 = some (.iload 10, 66) := pm_of cl213_0 35 (q := (64, .iload 10, 66)) rfl
theorem c213_66 : pm_code 213 66 = some (.iload_n 2, 67) := pm_of cl213_0 36 (q := (66, .iload_n 2, 67)) rfl
theorem c213_67 : pm_code 213 67 = some (.if_icmp .ge 85, 70) := pm_of cl213_0 37 (q := (67, .if_icmp .ge 85, 70)) rfl
theorem c213_70 : pm_code 213 70 = some (.aload_n 0, 71) := pm_of cl213_0 38 (q := (70, .aload_n 0, 71)) rfl
theorem c213_71 : pm_code 213 71 = some (.getfield 61, 74) := pm_of cl213_0 39 (q := (71, .getfield 61, 74)) rfl
theorem cl213_1 : ([(74, .aload_n 0, 75), (75, .getfield 19, 78), (78, .iload_n 1, 79), (79, .iload 10, 81), (81, .iadd, 82), (82, .iload_n 3, 83), (83, .iload 4, 85), (85, .iload 5, 87), (87, .invokevirtual 342, 90), (90, .iload 10, 92), (92, .ifCond .ne 13, 95), (95, .aload_n 0, 96), (96, .getfield 61, 99), (99, .invokevirtual 346, 102), (102, .goto 15, 105), (105, .iload 7, 107), (107, .aload_n 0, 108), (108, .getfield 61, 111), (111, .invokevirtual 346, 114), (114, .invokestatic 293, 117), (117, .istore 7, 119), (119, .iload 8, 121), (121, .aload_n 0, 122), (122, .getfield 61, 125), (125, .invokevirtual 346, 128), (128, .invokestatic 259, 131), (131, .istore 8, 133), (133, .aload_n 0, 134), (134, .getfield 61, 137), (137, .invokevirtual 346, 140), (140, .ifCond .ne 6, 143), (143, .iinc 9 1, 146), (146, .iinc 10 1, 149), (149, .goto (-85), 152), (152, .iload 6, 154), (154, .lookupswitch 32 #[(0, 26), (1, 29)], 180), (180, .iload 7, 182), (182, .ireturn, 183), (183, .iload 8, 185), (185, .ireturn, 186)] : List (Nat × Instr × Nat)).all (fun q => decide (pm_code 213 q.1 = some q.2)) = true := by decide +kernel
theorem c213_74 : pm_code 213 74 = some (.aload_n 0, 75) := pm_of cl213_1 0 (q := (74, .aload_n 0, 75)) rfl
theorem c213_75 : pm_code 213 75 = some (.getfield 19, 78) := pm_of cl213_1 1 (q := (75, .getfield 19, 78)) rfl
theorem c213_78 : pm_code 213 78 = some (.iload_n 1, 79) := pm_of cl213_1 2 (q := (78, .iload_n 1, 79)) rfl
theorem c213_79 : pm_code 213 79 = some (.iload 10, 81) := pm_of cl213_1 3 (q := (79, .iload 10, 81)) rfl
theorem c213_81 : pm_code 213 81 = some (.iadd, 82) := pm_of cl213_1 4 (q := (81, .iadd, 82)) rfl
theorem c213_82 : pm_code 213 82 = some (.iload_n 3, 83) := pm_of cl213_1 5 (q := (82, .iload_n 3, 83)) rfl
theorem c213_83 : pm_code 213 83 = some (.iload 4, 85) := pm_of cl213_1 6 (q := (83, .iload 4, 85)) rfl
theorem c213_85 : pm_code 213 85 = some (.iload 5, 87) := pm_of cl213_1 7 (q := (85, .iload 5, 87)) rfl
theorem c213_87 : pm_code 213 87 = some (.invokevirtual 342, 90) := pm_of cl213_1 8 (q := (87, .invokevirtual 342, 90)) rfl
theorem c213_90 : pm_code 213 90 = some (.iload 10, 92) := pm_of cl213_1 9 (q := (90, .iload 10, 92)) rfl
theorem c213_92 : pm_code 213 92 = some (.ifCond .ne 13, 95) := pm_of cl213_1 10 (q := (92, .ifCond .ne 13, 95)) rfl
theorem c213_95 : pm_code 213 95 = some (.aload_n 0, 96) := pm_of cl213_1 11 (q := (95, .aload_n 0, 96)) rfl
theorem c213_96 : pm_code 213 96 = some (.getfield 61, 99) := pm_of cl213_1 12 (q := (96, .getfield 61, 99)) rfl
theorem c213_99 : pm_code 213 99 = some (.invokevirtual 346, 102) := pm_of cl213_1 13 (q := (99, .invokevirtual 346, 102)) rfl
theorem c213_102 : pm_code 213 102 = some (.goto 15, 105) := pm_of cl213_1 14 (q := (102, .goto 15, 105)) rfl
theorem c213_105 : pm_code 213 105 = some (.iload 7, 107) := pm_of cl213_1 15 (q := (105, .iload 7, 107)) rfl
theorem c213_107 : pm_code 213 107 = some (.aload_n 0, 108) := pm_of cl213_1 16 (q := (107, .aload_n 0, 108)) rfl
theorem c213_108 : pm_code 213 108 = some (.getfield 61, 111) := pm_of cl213_1 17 (q := (108, .getfield 61, 111)) rfl
theorem c213_111 : pm_code 213 111 = some (.invokevirtual 346, 114) := pm_of cl213_1 18 (q := (111, .invokevirtual 346, 114)) rfl
theorem c213_114 : pm_code 213 114 = some (.invokestatic 293, 117) := pm_of cl213_1 19 (q := (114, .invokestatic 293, 117)) rfl
theorem c213_117 : pm_code 213 117 = some (.istore 7, 119) := pm_of cl213_1 20 (q := (117, .istore 7, 119)) rfl
theorem c213_119 : pm_code 213 119 = some (.iload 8, 121) := pm_of cl213_1 21 (q := (119, .iload 8, 121)) rfl
theorem c213_121 : pm_code 213 121 = some (.aload_n 0, 122) := pm_of cl213_1 22 (q := (121, .aload_n 0, 122)) rfl
theorem c213_122 : pm_code 213 122 = some (.getfield 61, 125) := pm_of cl213_1 23 (q := (122, .getfield 61, 125)) rfl
theorem c213_125 : pm_code 213 125 = some (.invokevirtual 346, 128) := pm_of cl213_1 24 (q := (125, .invokevirtual 346, 128)) rfl
theorem c213_128 : pm_code 213 128 = some (.invokestatic 259, 131) := pm_of cl213_1 25 (q := (128, .invokestatic 259, 131)) rfl
theorem c213_131 : pm_code 213 131 = some (.istore 8, 133) := pm_of cl213_1 26 (q := (131, .istore 8, 133)) rfl
theorem c213_133 : pm_code 213 133 = some (.aload_n 0, 134) := pm_of cl213_1 27 (q := (133, .aload_n 0, 134)) rfl
theorem c213_134 : pm_code 213 134 = some (.getfield 61, 137) := pm_of cl213_1 28 (q := (134, .getfield 61, 137)) rfl
theorem c213_137 : pm_code 213 137 = some (.invokevirtual 346, 140) := pm_of cl213_1 29 (q := (137, .invokevirtual 346, 140)) rfl
theorem c213_140 : pm_code 213 140 = some (.ifCond .ne 6, 143) := pm_of cl213_1 30 (q := (140, .ifCond .ne 6, 143)) rfl
theorem c213_143 : pm_code 213 143 = some (.iinc 9 1, 146) := pm_of cl213_1 31 (q := (143, .iinc 9 1, 146)) rfl
theorem c213_146 : pm_code 213 146 = some (.iinc 10 1, 149) := pm_of cl213_1 32 (q := (146, .iinc 10 1, 149)) rfl
theorem c213_149 : pm_code 213 149 = some (.goto (-85), 152) := pm_of cl213_1 33 (q := (149, .goto (-85), 152)) rfl
theorem c213_152 : pm_code 213 152 = some (.iload 6, 154) := pm_of cl213_1 34 (q := (152, .iload 6, 154)) rfl
theorem c213_154 : pm_code 213 154 = some (.lookupswitch 32 #[(0, 26), (1, 29)], 180) := pm_of cl213_1 35 (q := (154, .lookupswitch 32 #[(0, 26), (1, 29)], 180)) rfl
theorem c213_180 : pm_code 213 180 = some (.iload 7, 182) := pm_of cl213_1 36 (q := (180, .iload 7, 182)) rfl
theorem c213_182 : pm_code 213 182 = some (.ireturn, 183) := pm_of cl213_1 37 (q := (182, .ireturn, 183)) rfl
theorem c213_183 : pm_code 213 183 = some (.iload 8, 185) := pm_of cl213_1 38 (q := (183, .iload 8, 185)) rfl
theorem c213_185 : pm_code 213 185 = some (.ireturn, 186) := pm_of cl213_1 39 (q := (185, .ireturn, 186)) rfl
theorem cl213_2 : ([(186, .iload 9, 188), (188, .ireturn, 189)] : List (Nat × Instr × Nat)).all (fun q => decide (pm_code 213 q.1 = some q.2)) = true := by decide +kernel
theorem c213_186 : pm_code 213 186 = some (.iload 9, 188) := pm_of cl213_2 0 (q := (186, .iload 9, 188)) rfl
theorem c213_188 : pm_code 213 188 = some (.ireturn, 189) := pm_of cl213_2 1 (q := (188, .ireturn, 189)) rfl
theorem k214 : pm_k 214 = 12 := by decide +kernel
theorem ml214 : pm_ml 214 = 1 := by decide +kernel
theorem rt214 : pm_rt 214 = (some .int) := by decide +kernel
theorem hh214 : pm_hh 214 = [] := by decide +kernel
theorem rc214 : pm_cl 12 = (pm_y 214).cls := by decide +kernel
theorem cl214_0 : ([(0, .aload_n 0, 1), (1, .getfield 3, 4), (4, .ireturn, 5)] : List (Nat × Instr × Nat)).all (fun q => decide (pm_code 214 q.1 = some q.2)) = true := by decide +kernel
theorem c214_0 : pm_code 214 0 = some (.aload_n 0, 1) := pm_of cl214_0 0 (q := (0, .aload_n 0, 1)) rfl
theorem c214_1 : pm_code 214 1 = some (.getfield 3, 4) := pm_of cl214_0 1 (q := (1, .getfield 3, 4)) rfl
theorem c214_4 : pm_code 214 4 = some (.ireturn, 5) := pm_of cl214_0 2 (q := (4, .ireturn, 5)) rfl
theorem k215 : pm_k 215 = 12 := by decide +kernel
theorem ml215 : pm_ml 215 = 1 := by decide +kernel
theorem rt215 : pm_rt 215 = none := by decide +kernel
theorem hh215 : pm_hh 215 = [] := by decide +kernel
theorem rc215 : pm_cl 12 = (pm_y 215).cls := by decide +kernel
theorem cl215_0 : ([(0, .aload_n 0, 1), (1, .invokespecial 11, 4), (4, .aload_n 0, 5), (5, .iconst 2, 6), (6, .newarray .int, 8), (8, .putfield 7, 11), (11, .aload_n 0, 12), (12, .iconst (-1), 13), (13, .putfield 17, 16), (16, .aload_n 0, 17), (17, .sipush 600, 20), (20, .newarray .int, 22), (22, .putfield 20, 25), (25, .aload_n 0, 26), (26, .bipush 32, 28), (28, .newarray .int, 30), (30, .putfield 23, 33), (33, .aload_n 0, 34), (34, .bipush 15, 36), (36, .newarray .int, 38), (38, .putfield 26, 41), (41, .aload_n 0, 42), (42, .bipush 32, 44), (44, .newarray .int, 46), (46, .putfield 29, 49), (49, .aload_n 0, 50), (50, .bipush 15, 52), (52, .newarray .int, 54), (54, .putfield 32, 57), (57, .aload_n 0, 58), (58, .sipush 150, 61), (61, .newarray .int, 63), (63, .putfield 35, 66), (66, .aload_n 0, 67), (67, .sipush 150, 70), (70, .newarray .int, 72), (72, .putfield 38, 75), (75, .aload_n 0, 76), (76, .sipush 300, 79), (79, .newarray .int, 81)] : List (Nat × Instr × Nat)).all (fun q => decide (pm_code 215 q.1 = some q.2)) = true := by decide +kernel
theorem c215_0 : pm_code 215 0 = some (.aload_n 0, 1) := pm_of cl215_0 0 (q := (0, .aload_n 0, 1)) rfl
theorem c215_1 : pm_code 215 1 = some (.invokespecial 11, 4) := pm_of cl215_0 1 (q := (1, .invokespecial 11, 4)) rfl
theorem c215_4 : pm_code 215 4 = some (.aload_n 0, 5) := pm_of cl215_0 2 (q := (4, .aload_n 0, 5)) rfl
theorem c215_5 : pm_code 215 5 = some (.iconst 2, 6) := pm_of cl215_0 3 (q := (5, .iconst 2, 6)) rfl
theorem c215_6 : pm_code 215 6 = some (.newarray .int, 8) := pm_of cl215_0 4 (q := (6, .newarray .int, 8)) rfl
theorem c215_8 : pm_code 215 8 = some (.putfield 7, 11) := pm_of cl215_0 5 (q := (8, .putfield 7, 11)) rfl
theorem c215_11 : pm_code 215 11 = some (.aload_n 0, 12) := pm_of cl215_0 6 (q := (11, .aload_n 0, 12)) rfl
theorem c215_12 : pm_code 215 12 = some (.iconst (-1), 13) := pm_of cl215_0 7 (q := (12, .iconst (-1), 13)) rfl
theorem c215_13 : pm_code 215 13 = some (.putfield 17, 16) := pm_of cl215_0 8 (q := (13, .putfield 17, 16)) rfl
theorem c215_16 : pm_code 215 16 = some (.aload_n 0, 17) := pm_of cl215_0 9 (q := (16, .aload_n 0, 17)) rfl
theorem c215_17 : pm_code 215 17 = some (.sipush 600, 20) := pm_of cl215_0 10 (q := (17, .sipush 600, 20)) rfl
theorem c215_20 : pm_code 215 20 = some (.newarray .int, 22) := pm_of cl215_0 11 (q := (20, .newarray .int, 22)) rfl
theorem c215_22 : pm_code 215 22 = some (.putfield 20, 25) := pm_of cl215_0 12 (q := (22, .putfield 20, 25)) rfl
theorem c215_25 : pm_code 215 25 = some (.aload_n 0, 26) := pm_of cl215_0 13 (q := (25, .aload_n 0, 26)) rfl
theorem c215_26 : pm_code 215 26 = some (.bipush 32, 28) := pm_of cl215_0 14 (q := (26, .bipush 32, 28)) rfl
theorem c215_28 : pm_code 215 28 = some (.newarray .int, 30) := pm_of cl215_0 15 (q := (28, .newarray .int, 30)) rfl
theorem c215_30 : pm_code 215 30 = some (.putfield 23, 33) := pm_of cl215_0 16 (q := (30, .putfield 23, 33)) rfl
theorem c215_33 : pm_code 215 33 = some (.aload_n 0, 34) := pm_of cl215_0 17 (q := (33, .aload_n 0, 34)) rfl
theorem c215_34 : pm_code 215 34 = some (.bipush 15, 36) := pm_of cl215_0 18 (q := (34, .bipush 15, 36)) rfl
theorem c215_36 : pm_code 215 36 = some (.newarray .int, 38) := pm_of cl215_0 19 (q := (36, .newarray .int, 38)) rfl
theorem c215_38 : pm_code 215 38 = some (.putfield 26, 41) := pm_of cl215_0 20 (q := (38, .putfield 26, 41)) rfl
theorem c215_41 : pm_code 215 41 = some (.aload_n 0, 42) := pm_of cl215_0 21 (q := (41, .aload_n 0, 42)) rfl
theorem c215_42 : pm_code 215 42 = some (.bipush 32, 44) := pm_of cl215_0 22 (q := (42, .bipush 32, 44)) rfl
theorem c215_44 : pm_code 215 44 = some (.newarray .int, 46) := pm_of cl215_0 23 (q := (44, .newarray .int, 46)) rfl
theorem c215_46 : pm_code 215 46 = some (.putfield 29, 49) := pm_of cl215_0 24 (q := (46, .putfield 29, 49)) rfl
theorem c215_49 : pm_code 215 49 = some (.aload_n 0, 50) := pm_of cl215_0 25 (q := (49, .aload_n 0, 50)) rfl
theorem c215_50 : pm_code 215 50 = some (.bipush 15, 52) := pm_of cl215_0 26 (q := (50, .bipush 15, 52)) rfl
theorem c215_52 : pm_code 215 52 = some (.newarray .int, 54) := pm_of cl215_0 27 (q := (52, .newarray .int, 54)) rfl
theorem c215_54 : pm_code 215 54 = some (.putfield 32, 57) := pm_of cl215_0 28 (q := (54, .putfield 32, 57)) rfl
theorem c215_57 : pm_code 215 57 = some (.aload_n 0, 58) := pm_of cl215_0 29 (q := (57, .aload_n 0, 58)) rfl
theorem c215_58 : pm_code 215 58 = some (.sipush 150, 61) := pm_of cl215_0 30 (q := (58, .sipush 150, 61)) rfl
theorem c215_61 : pm_code 215 61 = some (.newarray .int, 63) := pm_of cl215_0 31 (q := (61, .newarray .int, 63)) rfl
theorem c215_63 : pm_code 215 63 = some (.putfield 35, 66) := pm_of cl215_0 32 (q := (63, .putfield 35, 66)) rfl
theorem c215_66 : pm_code 215 66 = some (.aload_n 0, 67) := pm_of cl215_0 33 (q := (66, .aload_n 0, 67)) rfl
theorem c215_67 : pm_code 215 67 = some (.sipush 150, 70) := pm_of cl215_0 34 (q := (67, .sipush 150, 70)) rfl
theorem c215_70 : pm_code 215 70 = some (.newarray .int, 72) := pm_of cl215_0 35 (q := (70, .newarray .int, 72)) rfl
theorem c215_72 : pm_code 215 72 = some (.putfield 38, 75) := pm_of cl215_0 36 (q := (72, .putfield 38, 75)) rfl
theorem c215_75 : pm_code 215 75 = some (.aload_n 0, 76) := pm_of cl215_0 37 (q := (75, .aload_n 0, 76)) rfl
theorem c215_76 : pm_code 215 76 = some (.sipush 300, 79) := pm_of cl215_0 38 (q := (76, .sipush 300, 79)) rfl
theorem c215_79 : pm_code 215 79 = some (.newarray .int, 81) := pm_of cl215_0 39 (q := (79, .newarray .int, 81)) rfl
theorem cl215_1 : ([(81, .putfield 41, 84), (84, .aload_n 0, 85), (85, .sipush 300, 88), (88, .newarray .int, 90), (90, .putfield 44, 93), (93, .aload_n 0, 94), (94, .iconst 2, 95), (95, .newarray .int, 97), (97, .putfield 47, 100), (100, .aload_n 0, 101), (101, .sipush 150, 104), (104, .newarray .int, 106), (106, .putfield 50, 109), (109, .aload_n 0, 110), (110, .bipush 8, 112), (112, .newarray .int, 114), (114, .putfield 53, 117), (117, .aload_n 0, 118), (118, .sipush 150, 121), (121, .newarray .int, 123), (123, .putfield 56, 126), (126, .aload_n 0, 127), (127, .sipush 150, 130), (130, .newarray .int, 132), (132, .putfield 59, 135), (135, .aload_n 0, 136), (136, .bipush 66, 138), (138, .newarray .int, 140), (140, .putfield 62, 143), (143, .aload_n 0, 144), (144, .bipush 66, 146), (146, .newarray .int, 148), (148, .putfield 65, 151), (151, .aload_n 0, 152), (152, .sipush 1056, 155), (155, .newarray .int, 157), (157, .putfield 68, 160), (160, .aload_n 0, 161), (161, .bipush 16, 163), (163, .newarray .int, 165)] : List (Nat × Instr × Nat)).all (fun q => decide (pm_code 215 q.1 = some q.2)) = true := by decide +kernel
theorem c215_81 : pm_code 215 81 = some (.putfield 41, 84) := pm_of cl215_1 0 (q := (81, .putfield 41, 84)) rfl
theorem c215_84 : pm_code 215 84 = some (.aload_n 0, 85) := pm_of cl215_1 1 (q := (84, .aload_n 0, 85)) rfl
theorem c215_85 : pm_code 215 85 = some (.sipush 300, 88) := pm_of cl215_1 2 (q := (85, .sipush 300, 88)) rfl
theorem c215_88 : pm_code 215 88 = some (.newarray .int, 90) := pm_of cl215_1 3 (q := (88, .newarray .int, 90)) rfl
theorem c215_90 : pm_code 215 90 = some (.putfield 44, 93) := pm_of cl215_1 4 (q := (90, .putfield 44, 93)) rfl
theorem c215_93 : pm_code 215 93 = some (.aload_n 0, 94) := pm_of cl215_1 5 (q := (93, .aload_n 0, 94)) rfl
theorem c215_94 : pm_code 215 94 = some (.iconst 2, 95) := pm_of cl215_1 6 (q := (94, .iconst 2, 95)) rfl
theorem c215_95 : pm_code 215 95 = some (.newarray .int, 97) := pm_of cl215_1 7 (q := (95, .newarray .int, 97)) rfl
theorem c215_97 : pm_code 215 97 = some (.putfield 47, 100) := pm_of cl215_1 8 (q := (97, .putfield 47, 100)) rfl
theorem c215_100 : pm_code 215 100 = some (.aload_n 0, 101) := pm_of cl215_1 9 (q := (100, .aload_n 0, 101)) rfl
theorem c215_101 : pm_code 215 101 = some (.sipush 150, 104) := pm_of cl215_1 10 (q := (101, .sipush 150, 104)) rfl
theorem c215_104 : pm_code 215 104 = some (.newarray .int, 106) := pm_of cl215_1 11 (q := (104, .newarray .int, 106)) rfl
theorem c215_106 : pm_code 215 106 = some (.putfield 50, 109) := pm_of cl215_1 12 (q := (106, .putfield 50, 109)) rfl
theorem c215_109 : pm_code 215 109 = some (.aload_n 0, 110) := pm_of cl215_1 13 (q := (109, .aload_n 0, 110)) rfl
theorem c215_110 : pm_code 215 110 = some (.bipush 8, 112) := pm_of cl215_1 14 (q := (110, .bipush 8, 112)) rfl
theorem c215_112 : pm_code 215 112 = some (.newarray .int, 114) := pm_of cl215_1 15 (q := (112, .newarray .int, 114)) rfl
theorem c215_114 : pm_code 215 114 = some (.putfield 53, 117) := pm_of cl215_1 16 (q := (114, .putfield 53, 117)) rfl
theorem c215_117 : pm_code 215 117 = some (.aload_n 0, 118) := pm_of cl215_1 17 (q := (117, .aload_n 0, 118)) rfl
theorem c215_118 : pm_code 215 118 = some (.sipush 150, 121) := pm_of cl215_1 18 (q := (118, .sipush 150, 121)) rfl
theorem c215_121 : pm_code 215 121 = some (.newarray .int, 123) := pm_of cl215_1 19 (q := (121, .newarray .int, 123)) rfl
theorem c215_123 : pm_code 215 123 = some (.putfield 56, 126) := pm_of cl215_1 20 (q := (123, .putfield 56, 126)) rfl
theorem c215_126 : pm_code 215 126 = some (.aload_n 0, 127) := pm_of cl215_1 21 (q := (126, .aload_n 0, 127)) rfl
theorem c215_127 : pm_code 215 127 = some (.sipush 150, 130) := pm_of cl215_1 22 (q := (127, .sipush 150, 130)) rfl
theorem c215_130 : pm_code 215 130 = some (.newarray .int, 132) := pm_of cl215_1 23 (q := (130, .newarray .int, 132)) rfl
theorem c215_132 : pm_code 215 132 = some (.putfield 59, 135) := pm_of cl215_1 24 (q := (132, .putfield 59, 135)) rfl
theorem c215_135 : pm_code 215 135 = some (.aload_n 0, 136) := pm_of cl215_1 25 (q := (135, .aload_n 0, 136)) rfl
theorem c215_136 : pm_code 215 136 = some (.bipush 66, 138) := pm_of cl215_1 26 (q := (136, .bipush 66, 138)) rfl
theorem c215_138 : pm_code 215 138 = some (.newarray .int, 140) := pm_of cl215_1 27 (q := (138, .newarray .int, 140)) rfl
theorem c215_140 : pm_code 215 140 = some (.putfield 62, 143) := pm_of cl215_1 28 (q := (140, .putfield 62, 143)) rfl
theorem c215_143 : pm_code 215 143 = some (.aload_n 0, 144) := pm_of cl215_1 29 (q := (143, .aload_n 0, 144)) rfl
theorem c215_144 : pm_code 215 144 = some (.bipush 66, 146) := pm_of cl215_1 30 (q := (144, .bipush 66, 146)) rfl
theorem c215_146 : pm_code 215 146 = some (.newarray .int, 148) := pm_of cl215_1 31 (q := (146, .newarray .int, 148)) rfl
theorem c215_148 : pm_code 215 148 = some (.putfield 65, 151) := pm_of cl215_1 32 (q := (148, .putfield 65, 151)) rfl
theorem c215_151 : pm_code 215 151 = some (.aload_n 0, 152) := pm_of cl215_1 33 (q := (151, .aload_n 0, 152)) rfl
theorem c215_152 : pm_code 215 152 = some (.sipush 1056, 155) := pm_of cl215_1 34 (q := (152, .sipush 1056, 155)) rfl
theorem c215_155 : pm_code 215 155 = some (.newarray .int, 157) := pm_of cl215_1 35 (q := (155, .newarray .int, 157)) rfl
theorem c215_157 : pm_code 215 157 = some (.putfield 68, 160) := pm_of cl215_1 36 (q := (157, .putfield 68, 160)) rfl
theorem c215_160 : pm_code 215 160 = some (.aload_n 0, 161) := pm_of cl215_1 37 (q := (160, .aload_n 0, 161)) rfl
theorem c215_161 : pm_code 215 161 = some (.bipush 16, 163) := pm_of cl215_1 38 (q := (161, .bipush 16, 163)) rfl
theorem c215_163 : pm_code 215 163 = some (.newarray .int, 165) := pm_of cl215_1 39 (q := (163, .newarray .int, 165)) rfl
theorem cl215_2 : ([(165, .putfield 71, 168), (168, .aload_n 0, 169), (169, .bipush 16, 171), (171, .newarray .int, 173), (173, .putfield 74, 176), (176, .aload_n 0, 177), (177, .bipush 40, 179), (179, .newarray .int, 181), (181, .putfield 77, 184), (184, .aload_n 0, 185), (185, .iconst 5, 186), (186, .newarray .int, 188), (188, .putfield 80, 191), (191, .aload_n 0, 192), (192, .bipush 8, 194), (194, .newarray .int, 196), (196, .putfield 83, 199), (199, .aload_n 0, 200), (200, .bipush 8, 202), (202, .newarray .int, 204), (204, .putfield 86, 207), (207, .aload_n 0, 208), (208, .sipush 225, 211), (211, .newarray .boolean, 213), (213, .putfield 89, 216), (216, .aload_n 0, 217), (217, .sipush 225, 220), (220, .newarray .int, 222), (222, .putfield 93, 225), (225, .aload_n 0, 226), (226, .sipush 1000, 229), (229, .newarray .int, 231), (231, .putfield 96, 234), (234, .aload_n 0, 235), (235, .iconst 5, 236), (236, .newarray .int, 238), (238, .putfield 99, 241), (241, .aload_n 0, 242), (242, .sipush 3369, 245), (245, .newarray .int, 247)] : List (Nat × Instr × Nat)).all (fun q => decide (pm_code 215 q.1 = some q.2)) = true := by decide +kernel
theorem c215_165 : pm_code 215 165 = some (.putfield 71, 168) := pm_of cl215_2 0 (q := (165, .putfield 71, 168)) rfl
theorem c215_168 : pm_code 215 168 = some (.aload_n 0, 169) := pm_of cl215_2 1 (q := (168, .aload_n 0, 169)) rfl
theorem c215_169 : pm_code 215 169 = some (.bipush 16, 171) := pm_of cl215_2 2 (q := (169, .bipush 16, 171)) rfl
theorem c215_171 : pm_code 215 171 = some (.newarray .int, 173) := pm_of cl215_2 3 (q := (171, .newarray .int, 173)) rfl
theorem c215_173 : pm_code 215 173 = some (.putfield 74, 176) := pm_of cl215_2 4 (q := (173, .putfield 74, 176)) rfl
theorem c215_176 : pm_code 215 176 = some (.aload_n 0, 177) := pm_of cl215_2 5 (q := (176, .aload_n 0, 177)) rfl
theorem c215_177 : pm_code 215 177 = some (.bipush 40, 179) := pm_of cl215_2 6 (q := (177, .bipush 40, 179)) rfl
theorem c215_179 : pm_code 215 179 = some (.newarray .int, 181) := pm_of cl215_2 7 (q := (179, .newarray .int, 181)) rfl
theorem c215_181 : pm_code 215 181 = some (.putfield 77, 184) := pm_of cl215_2 8 (q := (181, .putfield 77, 184)) rfl
theorem c215_184 : pm_code 215 184 = some (.aload_n 0, 185) := pm_of cl215_2 9 (q := (184, .aload_n 0, 185)) rfl
theorem c215_185 : pm_code 215 185 = some (.iconst 5, 186) := pm_of cl215_2 10 (q := (185, .iconst 5, 186)) rfl
theorem c215_186 : pm_code 215 186 = some (.newarray .int, 188) := pm_of cl215_2 11 (q := (186, .newarray .int, 188)) rfl
theorem c215_188 : pm_code 215 188 = some (.putfield 80, 191) := pm_of cl215_2 12 (q := (188, .putfield 80, 191)) rfl
theorem c215_191 : pm_code 215 191 = some (.aload_n 0, 192) := pm_of cl215_2 13 (q := (191, .aload_n 0, 192)) rfl
theorem c215_192 : pm_code 215 192 = some (.bipush 8, 194) := pm_of cl215_2 14 (q := (192, .bipush 8, 194)) rfl
theorem c215_194 : pm_code 215 194 = some (.newarray .int, 196) := pm_of cl215_2 15 (q := (194, .newarray .int, 196)) rfl
theorem c215_196 : pm_code 215 196 = some (.putfield 83, 199) := pm_of cl215_2 16 (q := (196, .putfield 83, 199)) rfl
theorem c215_199 : pm_code 215 199 = some (.aload_n 0, 200) := pm_of cl215_2 17 (q := (199, .aload_n 0, 200)) rfl
theorem c215_200 : pm_code 215 200 = some (.bipush 8, 202) := pm_of cl215_2 18 (q := (200, .bipush 8, 202)) rfl
theorem c215_202 : pm_code 215 202 = some (.newarray .int, 204) := pm_of cl215_2 19 (q := (202, .newarray .int, 204)) rfl
theorem c215_204 : pm_code 215 204 = some (.putfield 86, 207) := pm_of cl215_2 20 (q := (204, .putfield 86, 207)) rfl
theorem c215_207 : pm_code 215 207 = some (.aload_n 0, 208) := pm_of cl215_2 21 (q := (207, .aload_n 0, 208)) rfl
theorem c215_208 : pm_code 215 208 = some (.sipush 225, 211) := pm_of cl215_2 22 (q := (208, .sipush 225, 211)) rfl
theorem c215_211 : pm_code 215 211 = some (.newarray .boolean, 213) := pm_of cl215_2 23 (q := (211, .newarray .boolean, 213)) rfl
theorem c215_213 : pm_code 215 213 = some (.putfield 89, 216) := pm_of cl215_2 24 (q := (213, .putfield 89, 216)) rfl
theorem c215_216 : pm_code 215 216 = some (.aload_n 0, 217) := pm_of cl215_2 25 (q := (216, .aload_n 0, 217)) rfl
theorem c215_217 : pm_code 215 217 = some (.sipush 225, 220) := pm_of cl215_2 26 (q := (217, .sipush 225, 220)) rfl
theorem c215_220 : pm_code 215 220 = some (.newarray .int, 222) := pm_of cl215_2 27 (q := (220, .newarray .int, 222)) rfl
theorem c215_222 : pm_code 215 222 = some (.putfield 93, 225) := pm_of cl215_2 28 (q := (222, .putfield 93, 225)) rfl
theorem c215_225 : pm_code 215 225 = some (.aload_n 0, 226) := pm_of cl215_2 29 (q := (225, .aload_n 0, 226)) rfl
theorem c215_226 : pm_code 215 226 = some (.sipush 1000, 229) := pm_of cl215_2 30 (q := (226, .sipush 1000, 229)) rfl
theorem c215_229 : pm_code 215 229 = some (.newarray .int, 231) := pm_of cl215_2 31 (q := (229, .newarray .int, 231)) rfl
theorem c215_231 : pm_code 215 231 = some (.putfield 96, 234) := pm_of cl215_2 32 (q := (231, .putfield 96, 234)) rfl
theorem c215_234 : pm_code 215 234 = some (.aload_n 0, 235) := pm_of cl215_2 33 (q := (234, .aload_n 0, 235)) rfl
theorem c215_235 : pm_code 215 235 = some (.iconst 5, 236) := pm_of cl215_2 34 (q := (235, .iconst 5, 236)) rfl
theorem c215_236 : pm_code 215 236 = some (.newarray .int, 238) := pm_of cl215_2 35 (q := (236, .newarray .int, 238)) rfl
theorem c215_238 : pm_code 215 238 = some (.putfield 99, 241) := pm_of cl215_2 36 (q := (238, .putfield 99, 241)) rfl
theorem c215_241 : pm_code 215 241 = some (.aload_n 0, 242) := pm_of cl215_2 37 (q := (241, .aload_n 0, 242)) rfl
theorem c215_242 : pm_code 215 242 = some (.sipush 3369, 245) := pm_of cl215_2 38 (q := (242, .sipush 3369, 245)) rfl
theorem c215_245 : pm_code 215 245 = some (.newarray .int, 247) := pm_of cl215_2 39 (q := (245, .newarray .int, 247)) rfl
theorem cl215_3 : ([(247, .putfield 102, 250), (250, .aload_n 0, 251), (251, .invokevirtual 105, 254), (254, .aload_n 0, 255), (255, .invokevirtual 108, 258), (258, .return_, 259)] : List (Nat × Instr × Nat)).all (fun q => decide (pm_code 215 q.1 = some q.2)) = true := by decide +kernel
theorem c215_247 : pm_code 215 247 = some (.putfield 102, 250) := pm_of cl215_3 0 (q := (247, .putfield 102, 250)) rfl
theorem c215_250 : pm_code 215 250 = some (.aload_n 0, 251) := pm_of cl215_3 1 (q := (250, .aload_n 0, 251)) rfl
theorem c215_251 : pm_code 215 251 = some (.invokevirtual 105, 254) := pm_of cl215_3 2 (q := (251, .invokevirtual 105, 254)) rfl
theorem c215_254 : pm_code 215 254 = some (.aload_n 0, 255) := pm_of cl215_3 3 (q := (254, .aload_n 0, 255)) rfl
theorem c215_255 : pm_code 215 255 = some (.invokevirtual 108, 258) := pm_of cl215_3 4 (q := (255, .invokevirtual 108, 258)) rfl
theorem c215_258 : pm_code 215 258 = some (.return_, 259) := pm_of cl215_3 5 (q := (258, .return_, 259)) rfl
theorem k216 : pm_k 216 = 12 := by decide +kernel
theorem ml216 : pm_ml 216 = 1 := by decide +kernel
theorem rt216 : pm_rt 216 = none := by decide +kernel
theorem hh216 : pm_hh 216 = [] := by decide +kernel
theorem rc216 : pm_cl 12 = (pm_y 216).cls := by decide +kernel
theorem cl216_0 : ([(0, .aload_n 0, 1), (1, .iconst 0, 2), (2, .putfield 157, 5), (5, .aload_n 0, 6), (6, .iconst 0, 7), (7, .putfield 160, 10), (10, .aload_n 0, 11), (11, .bipush 60, 13), (13, .putfield 163, 16), (16, .aload_n 0, 17), (17, .bipush 8, 19), (19, .putfield 166, 22), (22, .return_, 23)] : List (Nat × Instr × Nat)).all (fun q => decide (pm_code 216 q.1 = some q.2)) = true := by decide +kernel
theorem c216_0 : pm_code 216 0 = some (.aload_n 0, 1) := pm_of cl216_0 0 (q := (0, .aload_n 0, 1)) rfl
theorem c216_1 : pm_code 216 1 = some (.iconst 0, 2) := pm_of cl216_0 1 (q := (1, .iconst 0, 2)) rfl
theorem c216_2 : pm_code 216 2 = some (.putfield 157, 5) := pm_of cl216_0 2 (q := (2, .putfield 157, 5)) rfl
theorem c216_5 : pm_code 216 5 = some (.aload_n 0, 6) := pm_of cl216_0 3 (q := (5, .aload_n 0, 6)) rfl
theorem c216_6 : pm_code 216 6 = some (.iconst 0, 7) := pm_of cl216_0 4 (q := (6, .iconst 0, 7)) rfl
theorem c216_7 : pm_code 216 7 = some (.putfield 160, 10) := pm_of cl216_0 5 (q := (7, .putfield 160, 10)) rfl
theorem c216_10 : pm_code 216 10 = some (.aload_n 0, 11) := pm_of cl216_0 6 (q := (10, .aload_n 0, 11)) rfl
theorem c216_11 : pm_code 216 11 = some (.bipush 60, 13) := pm_of cl216_0 7 (q := (11, .bipush 60, 13)) rfl
theorem c216_13 : pm_code 216 13 = some (.putfield 163, 16) := pm_of cl216_0 8 (q := (13, .putfield 163, 16)) rfl
theorem c216_16 : pm_code 216 16 = some (.aload_n 0, 17) := pm_of cl216_0 9 (q := (16, .aload_n 0, 17)) rfl
theorem c216_17 : pm_code 216 17 = some (.bipush 8, 19) := pm_of cl216_0 10 (q := (17, .bipush 8, 19)) rfl
theorem c216_19 : pm_code 216 19 = some (.putfield 166, 22) := pm_of cl216_0 11 (q := (19, .putfield 166, 22)) rfl
theorem c216_22 : pm_code 216 22 = some (.return_, 23) := pm_of cl216_0 12 (q := (22, .return_, 23)) rfl
theorem k217 : pm_k 217 = 12 := by decide +kernel
theorem ml217 : pm_ml 217 = 2 := by decide +kernel
theorem rt217 : pm_rt 217 = none := by decide +kernel
theorem hh217 : pm_hh 217 = [] := by decide +kernel
theorem rc217 : pm_cl 12 = (pm_y 217).cls := by decide +kernel
theorem cl217_0 : ([(0, .aload_n 0, 1), (1, .aload_n 0, 2), (2, .getfield 157, 5), (5, .putfield 169, 8), (8, .aload_n 0, 9), (9, .aload_n 0, 10), (10, .getfield 160, 13), (13, .putfield 172, 16), (16, .aload_n 0, 17), (17, .aload_n 0, 18), (18, .getfield 166, 21), (21, .putfield 175, 24), (24, .aload_n 0, 25), (25, .aload_n 0, 26), (26, .getfield 23, 29), (29, .aload_n 0, 30), (30, .getfield 29, 33), (33, .bipush 32, 35), (35, .invokevirtual 178, 38), (38, .aload_n 0, 39), (39, .aload_n 0, 40), (40, .getfield 26, 43), (43, .aload_n 0, 44), (44, .getfield 32, 47), (47, .bipush 15, 49), (49, .invokevirtual 178, 52), (52, .aload_n 0, 53), (53, .getfield 47, 56), (56, .iconst 0, 57), (57, .iconst 0, 58), (58, .iastore, 59), (59, .aload_n 0, 60), (60, .getfield 47, 63), (63, .iconst 1, 64), (64, .iconst 0, 65), (65, .iastore, 66), (66, .aload_n 0, 67), (67, .iconst 0, 68), (68, .putfield 182, 71), (71, .aload_n 0, 72)] : List (Nat × Instr × Nat)).all (fun q => decide (pm_code 217 q.1 = some q.2)) = true := by decide +kernel
theorem c217_0 : pm_code 217 0 = some (.aload_n 0, 1) := pm_of cl217_0 0 (q := (0, .aload_n 0, 1)) rfl
theorem c217_1 : pm_code 217 1 = some (.aload_n 0, 2) := pm_of cl217_0 1 (q := (1, .aload_n 0, 2)) rfl
theorem c217_2 : pm_code 217 2 = some (.getfield 157, 5) := pm_of cl217_0 2 (q := (2, .getfield 157, 5)) rfl
theorem c217_5 : pm_code 217 5 = some (.putfield 169, 8) := pm_of cl217_0 3 (q := (5, .putfield 169, 8)) rfl
theorem c217_8 : pm_code 217 8 = some (.aload_n 0, 9) := pm_of cl217_0 4 (q := (8, .aload_n 0, 9)) rfl
theorem c217_9 : pm_code 217 9 = some (.aload_n 0, 10) := pm_of cl217_0 5 (q := (9, .aload_n 0, 10)) rfl
theorem c217_10 : pm_code 217 10 = some (.getfield 160, 13) := pm_of cl217_0 6 (q := (10, .getfield 160, 13)) rfl
theorem c217_13 : pm_code 217 13 = some (.putfield 172, 16) := pm_of cl217_0 7 (q := (13, .putfield 172, 16)) rfl
theorem c217_16 : pm_code 217 16 = some (.aload_n 0, 17) := pm_of cl217_0 8 (q := (16, .aload_n 0, 17)) rfl
theorem c217_17 : pm_code 217 17 = some (.aload_n 0, 18) := pm_of cl217_0 9 (q := (17, .aload_n 0, 18)) rfl
theorem c217_18 : pm_code 217 18 = some (.getfield 166, 21) := pm_of cl217_0 10 (q := (18, .getfield 166, 21)) rfl
theorem c217_21 : pm_code 217 21 = some (.putfield 175, 24) := pm_of cl217_0 11 (q := (21, .putfield 175, 24)) rfl
theorem c217_24 : pm_code 217 24 = some (.aload_n 0, 25) := pm_of cl217_0 12 (q := (24, .aload_n 0, 25)) rfl
theorem c217_25 : pm_code 217 25 = some (.aload_n 0, 26) := pm_of cl217_0 13 (q := (25, .aload_n 0, 26)) rfl
theorem c217_26 : pm_code 217 26 = some (.getfield 23, 29) := pm_of cl217_0 14 (q := (26, .getfield 23, 29)) rfl
theorem c217_29 : pm_code 217 29 = some (.aload_n 0, 30) := pm_of cl217_0 15 (q := (29, .aload_n 0, 30)) rfl
theorem c217_30 : pm_code 217 30 = some (.getfield 29, 33) := pm_of cl217_0 16 (q := (30, .getfield 29, 33)) rfl
theorem c217_33 : pm_code 217 33 = some (.bipush 32, 35) := pm_of cl217_0 17 (q := (33, .bipush 32, 35)) rfl
theorem c217_35 : pm_code 217 35 = some (.invokevirtual 178, 38) := pm_of cl217_0 18 (q := (35, .invokevirtual 178, 38)) rfl
theorem c217_38 : pm_code 217 38 = some (.aload_n 0, 39) := pm_of cl217_0 19 (q := (38, .aload_n 0, 39)) rfl
theorem c217_39 : pm_code 217 39 = some (.aload_n 0, 40) := pm_of cl217_0 20 (q := (39, .aload_n 0, 40)) rfl
theorem c217_40 : pm_code 217 40 = some (.getfield 26, 43) := pm_of cl217_0 21 (q := (40, .getfield 26, 43)) rfl
theorem c217_43 : pm_code 217 43 = some (.aload_n 0, 44) := pm_of cl217_0 22 (q := (43, .aload_n 0, 44)) rfl
theorem c217_44 : pm_code 217 44 = some (.getfield 32, 47) := pm_of cl217_0 23 (q := (44, .getfield 32, 47)) rfl
theorem c217_47 : pm_code 217 47 = some (.bipush 15, 49) := pm_of cl217_0 24 (q := (47, .bipush 15, 49)) rfl
theorem c217_49 : pm_code 217 49 = some (.invokevirtual 178, 52) := pm_of cl217_0 25 (q := (49, .invokevirtual 178, 52)) rfl
theorem c217_52 : pm_code 217 52 = some (.aload_n 0, 53) := pm_of cl217_0 26 (q := (52, .aload_n 0, 53)) rfl
theorem c217_53 : pm_code 217 53 = some (.getfield 47, 56) := pm_of cl217_0 27 (q := (53, .getfield 47, 56)) rfl
theorem c217_56 : pm_code 217 56 = some (.iconst 0, 57) := pm_of cl217_0 28 (q := (56, .iconst 0, 57)) rfl
theorem c217_57 : pm_code 217 57 = some (.iconst 0, 58) := pm_of cl217_0 29 (q := (57, .iconst 0, 58)) rfl
theorem c217_58 : pm_code 217 58 = some (.iastore, 59) := pm_of cl217_0 30 (q := (58, .iastore, 59)) rfl
theorem c217_59 : pm_code 217 59 = some (.aload_n 0, 60) := pm_of cl217_0 31 (q := (59, .aload_n 0, 60)) rfl
theorem c217_60 : pm_code 217 60 = some (.getfield 47, 63) := pm_of cl217_0 32 (q := (60, .getfield 47, 63)) rfl
theorem c217_63 : pm_code 217 63 = some (.iconst 1, 64) := pm_of cl217_0 33 (q := (63, .iconst 1, 64)) rfl
theorem c217_64 : pm_code 217 64 = some (.iconst 0, 65) := pm_of cl217_0 34 (q := (64, .iconst 0, 65)) rfl
theorem c217_65 : pm_code 217 65 = some (.iastore, 66) := pm_of cl217_0 35 (q := (65, .iastore, 66)) rfl
theorem c217_66 : pm_code 217 66 = some (.aload_n 0, 67) := pm_of cl217_0 36 (q := (66, .aload_n 0, 67)) rfl
theorem c217_67 : pm_code 217 67 = some (.iconst 0, 68) := pm_of cl217_0 37 (q := (67, .iconst 0, 68)) rfl
theorem c217_68 : pm_code 217 68 = some (.putfield 182, 71) := pm_of cl217_0 38 (q := (68, .putfield 182, 71)) rfl
theorem c217_71 : pm_code 217 71 = some (.aload_n 0, 72) := pm_of cl217_0 39 (q := (71, .aload_n 0, 72)) rfl
theorem cl217_1 : ([(72, .iconst 0, 73), (73, .putfield 185, 76), (76, .aload_n 0, 77), (77, .iconst 0, 78), (78, .putfield 188, 81), (81, .aload_n 0, 82), (82, .iconst 0, 83), (83, .putfield 191, 86), (86, .iconst 0, 87), (87, .istore_n 1, 88), (88, .iload_n 1, 89), (89, .bipush 66, 91), (91, .if_icmp .ge 16, 94), (94, .aload_n 0, 95), (95, .getfield 62, 98), (98, .iload_n 1, 99), (99, .iconst 0, 100), (100, .iastore, 101), (101, .iinc 1 1, 104), (104, .goto (-16), 107), (107, .iconst 0, 108), (108, .istore_n 1, 109), (109, .iload_n 1, 110), (110, .bipush 8, 112), (112, .if_icmp .ge 60, 115), (115, .aload_n 0, 116), (116, .getfield 62, 119), (119, .bipush 8, 121), (121, .iload_n 1, 122), (122, .iadd, 123), (123, .iconst (-1), 124), (124, .iastore, 125), (125, .aload_n 0, 126), (126, .getfield 62, 129), (129, .bipush 48, 131), (131, .iload_n 1, 132), (132, .iadd, 133), (133, .iconst (-1), 134), (134, .iastore, 135), (135, .aload_n 0, 136)] : List (Nat × Instr × Nat)).all (fun q => decide (pm_code 217 q.1 = some q.2)) = true := by decide +kernel
theorem c217_72 : pm_code 217 72 = some (.iconst 0, 73) := pm_of cl217_1 0 (q := (72, .iconst 0, 73)) rfl
theorem c217_73 : pm_code 217 73 = some (.putfield 185, 76) := pm_of cl217_1 1 (q := (73, .putfield 185, 76)) rfl
theorem c217_76 : pm_code 217 76 = some (.aload_n 0, 77) := pm_of cl217_1 2 (q := (76, .aload_n 0, 77)) rfl
theorem c217_77 : pm_code 217 77 = some (.iconst 0, 78) := pm_of cl217_1 3 (q := (77, .iconst 0, 78)) rfl
theorem c217_78 : pm_code 217 78 = some (.putfield 188, 81) := pm_of cl217_1 4 (q := (78, .putfield 188, 81)) rfl
theorem c217_81 : pm_code 217 81 = some (.aload_n 0, 82) := pm_of cl217_1 5 (q := (81, .aload_n 0, 82)) rfl
theorem c217_82 : pm_code 217 82 = some (.iconst 0, 83) := pm_of cl217_1 6 (q := (82, .iconst 0, 83)) rfl
theorem c217_83 : pm_code 217 83 = some (.putfield 191, 86) := pm_of cl217_1 7 (q := (83, .putfield 191, 86)) rfl
theorem c217_86 : pm_code 217 86 = some (.iconst 0, 87) := pm_of cl217_1 8 (q := (86, .iconst 0, 87)) rfl
theorem c217_87 : pm_code 217 87 = some (.istore_n 1, 88) := pm_of cl217_1 9 (q := (87, .istore_n 1, 88)) rfl
theorem c217_88 : pm_code 217 88 = some (.iload_n 1, 89) := pm_of cl217_1 10 (q := (88, .iload_n 1, 89)) rfl
theorem c217_89 : pm_code 217 89 = some (.bipush 66, 91) := pm_of cl217_1 11 (q := (89, .bipush 66, 91)) rfl
theorem c217_91 : pm_code 217 91 = some (.if_icmp .ge 16, 94) := pm_of cl217_1 12 (q := (91, .if_icmp .ge 16, 94)) rfl
theorem c217_94 : pm_code 217 94 = some (.aload_n 0, 95) := pm_of cl217_1 13 (q := (94, .aload_n 0, 95)) rfl
theorem c217_95 : pm_code 217 95 = some (.getfield 62, 98) := pm_of cl217_1 14 (q := (95, .getfield 62, 98)) rfl
theorem c217_98 : pm_code 217 98 = some (.iload_n 1, 99) := pm_of cl217_1 15 (q := (98, .iload_n 1, 99)) rfl
theorem c217_99 : pm_code 217 99 = some (.iconst 0, 100) := pm_of cl217_1 16 (q := (99, .iconst 0, 100)) rfl
theorem c217_100 : pm_code 217 100 = some (.iastore, 101) := pm_of cl217_1 17 (q := (100, .iastore, 101)) rfl
theorem c217_101 : pm_code 217 101 = some (.iinc 1 1, 104) := pm_of cl217_1 18 (q := (101, .iinc 1 1, 104)) rfl
theorem c217_104 : pm_code 217 104 = some (.goto (-16), 107) := pm_of cl217_1 19 (q := (104, .goto (-16), 107)) rfl
theorem c217_107 : pm_code 217 107 = some (.iconst 0, 108) := pm_of cl217_1 20 (q := (107, .iconst 0, 108)) rfl
theorem c217_108 : pm_code 217 108 = some (.istore_n 1, 109) := pm_of cl217_1 21 (q := (108, .istore_n 1, 109)) rfl
theorem c217_109 : pm_code 217 109 = some (.iload_n 1, 110) := pm_of cl217_1 22 (q := (109, .iload_n 1, 110)) rfl
theorem c217_110 : pm_code 217 110 = some (.bipush 8, 112) := pm_of cl217_1 23 (q := (110, .bipush 8, 112)) rfl
theorem c217_112 : pm_code 217 112 = some (.if_icmp .ge 60, 115) := pm_of cl217_1 24 (q := (112, .if_icmp .ge 60, 115)) rfl
theorem c217_115 : pm_code 217 115 = some (.aload_n 0, 116) := pm_of cl217_1 25 (q := (115, .aload_n 0, 116)) rfl
theorem c217_116 : pm_code 217 116 = some (.getfield 62, 119) := pm_of cl217_1 26 (q := (116, .getfield 62, 119)) rfl
theorem c217_119 : pm_code 217 119 = some (.bipush 8, 121) := pm_of cl217_1 27 (q := (119, .bipush 8, 121)) rfl
theorem c217_121 : pm_code 217 121 = some (.iload_n 1, 122) := pm_of cl217_1 28 (q := (121, .iload_n 1, 122)) rfl
theorem c217_122 : pm_code 217 122 = some (.iadd, 123) := pm_of cl217_1 29 (q := (122, .iadd, 123)) rfl
theorem c217_123 : pm_code 217 123 = some (.iconst (-1), 124) := pm_of cl217_1 30 (q := (123, .iconst (-1), 124)) rfl
theorem c217_124 : pm_code 217 124 = some (.iastore, 125) := pm_of cl217_1 31 (q := (124, .iastore, 125)) rfl
theorem c217_125 : pm_code 217 125 = some (.aload_n 0, 126) := pm_of cl217_1 32 (q := (125, .aload_n 0, 126)) rfl
theorem c217_126 : pm_code 217 126 = some (.getfield 62, 129) := pm_of cl217_1 33 (q := (126, .getfield 62, 129)) rfl
theorem c217_129 : pm_code 217 129 = some (.bipush 48, 131) := pm_of cl217_1 34 (q := (129, .bipush 48, 131)) rfl
theorem c217_131 : pm_code 217 131 = some (.iload_n 1, 132) := pm_of cl217_1 35 (q := (131, .iload_n 1, 132)) rfl
theorem c217_132 : pm_code 217 132 = some (.iadd, 133) := pm_of cl217_1 36 (q := (132, .iadd, 133)) rfl
theorem c217_133 : pm_code 217 133 = some (.iconst (-1), 134) := pm_of cl217_1 37 (q := (133, .iconst (-1), 134)) rfl
theorem c217_134 : pm_code 217 134 = some (.iastore, 135) := pm_of cl217_1 38 (q := (134, .iastore, 135)) rfl
theorem c217_135 : pm_code 217 135 = some (.aload_n 0, 136) := pm_of cl217_1 39 (q := (135, .aload_n 0, 136)) rfl
theorem cl217_2 : ([(136, .getfield 62, 139), (139, .bipush 56, 141), (141, .iload_n 1, 142), (142, .iadd, 143), (143, .iload_n 1, 144), (144, .aload_n 0, 145), (145, .getfield 169, 148), (148, .if_icmp .ge 16, 151), (151, .aload_n 0, 152), (152, .getfield 29, 155), (155, .iconst 4, 156), (156, .iload_n 1, 157), (157, .imul, 158), (158, .iconst 3, 159), (159, .iadd, 160), (160, .iaload, 161), (161, .goto 4, 164), (164, .iconst 0, 165), (165, .iastore, 166), (166, .iinc 1 1, 169), (169, .goto (-60), 172), (172, .aload_n 0, 173), (173, .getfield 62, 176), (176, .bipush 65, 178), (178, .aload_n 0, 179), (179, .getfield 163, 182), (182, .iastore, 183), (183, .return_, 184)] : List (Nat × Instr × Nat)).all (fun q => decide (pm_code 217 q.1 = some q.2)) = true := by decide +kernel
theorem c217_136 : pm_code 217 136 = some (.getfield 62, 139) := pm_of cl217_2 0 (q := (136, .getfield 62, 139)) rfl
theorem c217_139 : pm_code 217 139 = some (.bipush 56, 141) := pm_of cl217_2 1 (q := (139, .bipush 56, 141)) rfl
theorem c217_141 : pm_code 217 141 = some (.iload_n 1, 142) := pm_of cl217_2 2 (q := (141, .iload_n 1, 142)) rfl
theorem c217_142 : pm_code 217 142 = some (.iadd, 143) := pm_of cl217_2 3 (q := (142, .iadd, 143)) rfl
theorem c217_143 : pm_code 217 143 = some (.iload_n 1, 144) := pm_of cl217_2 4 (q := (143, .iload_n 1, 144)) rfl
theorem c217_144 : pm_code 217 144 = some (.aload_n 0, 145) := pm_of cl217_2 5 (q := (144, .aload_n 0, 145)) rfl
theorem c217_145 : pm_code 217 145 = some (.getfield 169, 148) := pm_of cl217_2 6 (q := (145, .getfield 169, 148)) rfl
theorem c217_148 : pm_code 217 148 = some (.if_icmp .ge 16, 151) := pm_of cl217_2 7 (q := (148, .if_icmp .ge 16, 151)) rfl
theorem c217_151 : pm_code 217 151 = some (.aload_n 0, 152) := pm_of cl217_2 8 (q := (151, .aload_n 0, 152)) rfl
theorem c217_152 : pm_code 217 152 = some (.getfield 29, 155) := pm_of cl217_2 9 (q := (152, .getfield 29, 155)) rfl
theorem c217_155 : pm_code 217 155 = some (.iconst 4, 156) := pm_of cl217_2 10 (q := (155, .iconst 4, 156)) rfl
theorem c217_156 : pm_code 217 156 = some (.iload_n 1, 157) := pm_of cl217_2 11 (q := (156, .iload_n 1, 157)) rfl
theorem c217_157 : pm_code 217 157 = some (.imul, 158) := pm_of cl217_2 12 (q := (157, .imul, 158)) rfl
theorem c217_158 : pm_code 217 158 = some (.iconst 3, 159) := pm_of cl217_2 13 (q := (158, .iconst 3, 159)) rfl
theorem c217_159 : pm_code 217 159 = some (.iadd, 160) := pm_of cl217_2 14 (q := (159, .iadd, 160)) rfl
theorem c217_160 : pm_code 217 160 = some (.iaload, 161) := pm_of cl217_2 15 (q := (160, .iaload, 161)) rfl
theorem c217_161 : pm_code 217 161 = some (.goto 4, 164) := pm_of cl217_2 16 (q := (161, .goto 4, 164)) rfl
theorem c217_164 : pm_code 217 164 = some (.iconst 0, 165) := pm_of cl217_2 17 (q := (164, .iconst 0, 165)) rfl
theorem c217_165 : pm_code 217 165 = some (.iastore, 166) := pm_of cl217_2 18 (q := (165, .iastore, 166)) rfl
theorem c217_166 : pm_code 217 166 = some (.iinc 1 1, 169) := pm_of cl217_2 19 (q := (166, .iinc 1 1, 169)) rfl
theorem c217_169 : pm_code 217 169 = some (.goto (-60), 172) := pm_of cl217_2 20 (q := (169, .goto (-60), 172)) rfl
theorem c217_172 : pm_code 217 172 = some (.aload_n 0, 173) := pm_of cl217_2 21 (q := (172, .aload_n 0, 173)) rfl
theorem c217_173 : pm_code 217 173 = some (.getfield 62, 176) := pm_of cl217_2 22 (q := (173, .getfield 62, 176)) rfl
theorem c217_176 : pm_code 217 176 = some (.bipush 65, 178) := pm_of cl217_2 23 (q := (176, .bipush 65, 178)) rfl
theorem c217_178 : pm_code 217 178 = some (.aload_n 0, 179) := pm_of cl217_2 24 (q := (178, .aload_n 0, 179)) rfl
theorem c217_179 : pm_code 217 179 = some (.getfield 163, 182) := pm_of cl217_2 25 (q := (179, .getfield 163, 182)) rfl
theorem c217_182 : pm_code 217 182 = some (.iastore, 183) := pm_of cl217_2 26 (q := (182, .iastore, 183)) rfl
theorem c217_183 : pm_code 217 183 = some (.return_, 184) := pm_of cl217_2 27 (q := (183, .return_, 184)) rfl
theorem k218 : pm_k 218 = 12 := by decide +kernel
theorem ml218 : pm_ml 218 = 5 := by decide +kernel
theorem rt218 : pm_rt 218 = none := by decide +kernel
theorem hh218 : pm_hh 218 = [] := by decide +kernel
theorem rc218 : pm_cl 12 = (pm_y 218).cls := by decide +kernel
theorem cl218_0 : ([(0, .iconst 0, 1), (1, .istore 4, 3), (3, .iload 4, 5), (5, .iload_n 3, 6), (6, .if_icmp .ge 17, 9), (9, .aload_n 2, 10), (10, .iload 4, 12), (12, .aload_n 1, 13), (13, .iload 4, 15), (15, .iaload, 16), (16, .iastore, 17), (17, .iinc 4 1, 20), (20, .goto (-17), 23), (23, .return_, 24)] : List (Nat × Instr × Nat)).all (fun q => decide (pm_code 218 q.1 = some q.2)) = true := by decide +kernel
theorem c218_0 : pm_code 218 0 = some (.iconst 0, 1) := pm_of cl218_0 0 (q := (0, .iconst 0, 1)) rfl
theorem c218_1 : pm_code 218 1 = some (.istore 4, 3) := pm_of cl218_0 1 (q := (1, .istore 4, 3)) rfl
theorem c218_3 : pm_code 218 3 = some (.iload 4, 5) := pm_of cl218_0 2 (q := (3, .iload 4, 5)) rfl
theorem c218_5 : pm_code 218 5 = some (.iload_n 3, 6) := pm_of cl218_0 3 (q := (5, .iload_n 3, 6)) rfl
theorem c218_6 : pm_code 218 6 = some (.if_icmp .ge 17, 9) := pm_of cl218_0 4 (q := (6, .if_icmp .ge 17, 9)) rfl
theorem c218_9 : pm_code 218 9 = some (.aload_n 2, 10) := pm_of cl218_0 5 (q := (9, .aload_n 2, 10)) rfl
theorem c218_10 : pm_code 218 10 = some (.iload 4, 12) := pm_of cl218_0 6 (q := (10, .iload 4, 12)) rfl
theorem c218_12 : pm_code 218 12 = some (.aload_n 1, 13) := pm_of cl218_0 7 (q := (12, .aload_n 1, 13)) rfl
theorem c218_13 : pm_code 218 13 = some (.iload 4, 15) := pm_of cl218_0 8 (q := (13, .iload 4, 15)) rfl
theorem c218_15 : pm_code 218 15 = some (.iaload, 16) := pm_of cl218_0 9 (q := (15, .iaload, 16)) rfl
theorem c218_16 : pm_code 218 16 = some (.iastore, 17) := pm_of cl218_0 10 (q := (16, .iastore, 17)) rfl
theorem c218_17 : pm_code 218 17 = some (.iinc 4 1, 20) := pm_of cl218_0 11 (q := (17, .iinc 4 1, 20)) rfl
theorem c218_20 : pm_code 218 20 = some (.goto (-17), 23) := pm_of cl218_0 12 (q := (20, .goto (-17), 23)) rfl
theorem c218_23 : pm_code 218 23 = some (.return_, 24) := pm_of cl218_0 13 (q := (23, .return_, 24)) rfl
theorem k219 : pm_k 219 = 12 := by decide +kernel
theorem ml219 : pm_ml 219 = 8 := by decide +kernel
theorem rt219 : pm_rt 219 = (some .int) := by decide +kernel
theorem hh219 : pm_hh 219 = [] := by decide +kernel
theorem rc219 : pm_cl 12 = (pm_y 219).cls := by decide +kernel
theorem cl219_0 : ([(0, .aload_n 0, 1), (1, .iconst 0, 2), (2, .putfield 3, 5), (5, .aload_n 0, 6), (6, .getfield 111, 9), (9, .bipush 20, 11), (11, .iadd, 12), (12, .sipush 600, 15), (15, .if_icmp .le 5, 18), (18, .iconst (-1), 19), (19, .ireturn, 20), (20, .iconst 0, 21), (21, .istore 6, 23), (23, .iload 6, 25), (25, .bipush 20, 27), (27, .if_icmp .ge 93, 30), (30, .iload 6, 32), (32, .iconst 4, 33), (33, .if_icmp .ge 7, 36), (36, .iload_n 1, 37), (37, .goto 39, 40), (40, .iload 6, 42), (42, .bipush 8, 44), (44, .if_icmp .ge 7, 47), (47, .iload_n 2, 48), (48, .goto 28, 51), (51, .iload 6, 53), (53, .bipush 12, 55), (55, .if_icmp .ge 7, 58), (58, .iload_n 3, 59), (59, .goto 17, 62), (62, .iload 6, 64), (64, .bipush 16, 66), (66, .if_icmp .ge 8, 69), (69, .iload 4, 71), (71, .goto 5, 74), (74, .iload 5, 76), (76, .istore 7, 78), (78, .aload_n 0, 79), (79, .getfield 20, 82)] : List (Nat × Instr × Nat)).all (fun q => decide (pm_code 219 q.1 = some q.2)) = true := by decide +kernel
theorem c219_0 : pm_code 219 0 = some (.aload_n 0, 1) := pm_of cl219_0 0 (q := (0, .aload_n 0, 1)) rfl
theorem c219_1 : pm_code 219 1 = some (.iconst 0, 2) := pm_of cl219_0 1 (q := (1, .iconst 0, 2)) rfl
theorem c219_2 : pm_code 219 2 = some (.putfield 3, 5) := pm_of cl219_0 2 (q := (2, .putfield 3, 5)) rfl
theorem c219_5 : pm_code 219 5 = some (.aload_n 0, 6) := pm_of cl219_0 3 (q := (5, .aload_n 0, 6)) rfl
theorem c219_6 : pm_code 219 6 = some (.getfield 111, 9) := pm_of cl219_0 4 (q := (6, .getfield 111, 9)) rfl
theorem c219_9 : pm_code 219 9 = some (.bipush 20, 11) := pm_of cl219_0 5 (q := (9, .bipush 20, 11)) rfl
theorem c219_11 : pm_code 219 11 = some (.iadd, 12) := pm_of cl219_0 6 (q := (11, .iadd, 12)) rfl
theorem c219_12 : pm_code 219 12 = some (.sipush 600, 15) := pm_of cl219_0 7 (q := (12, .sipush 600, 15)) rfl
theorem c219_15 : pm_code 219 15 = some (.if_icmp .le 5, 18) := pm_of cl219_0 8 (q := (15, .if_icmp .le 5, 18)) rfl
theorem c219_18 : pm_code 219 18 = some (.iconst (-1), 19) := pm_of cl219_0 9 (q := (18, .iconst (-1), 19)) rfl
theorem c219_19 : pm_code 219 19 = some (.ireturn, 20) := pm_of cl219_0 10 (q := (19, .ireturn, 20)) rfl
theorem c219_20 : pm_code 219 20 = some (.iconst 0, 21) := pm_of cl219_0 11 (q := (20, .iconst 0, 21)) rfl
theorem c219_21 : pm_code 219 21 = some (.istore 6, 23) := pm_of cl219_0 12 (q := (21, .istore 6, 23)) rfl
theorem c219_23 : pm_code 219 23 = some (.iload 6, 25) := pm_of cl219_0 13 (q := (23, .iload 6, 25)) rfl
theorem c219_25 : pm_code 219 25 = some (.bipush 20, 27) := pm_of cl219_0 14 (q := (25, .bipush 20, 27)) rfl
theorem c219_27 : pm_code 219 27 = some (.if_icmp .ge 93, 30) := pm_of cl219_0 15 (q := (27, .if_icmp .ge 93, 30)) rfl
theorem c219_30 : pm_code 219 30 = some (.iload 6, 32) := pm_of cl219_0 16 (q := (30, .iload 6, 32)) rfl
theorem c219_32 : pm_code 219 32 = some (.iconst 4, 33) := pm_of cl219_0 17 (q := (32, .iconst 4, 33)) rfl
theorem c219_33 : pm_code 219 33 = some (.if_icmp .ge 7, 36) := pm_of cl219_0 18 (q := (33, .if_icmp .ge 7, 36)) rfl
theorem c219_36 : pm_code 219 36 = some (.iload_n 1, 37) := pm_of cl219_0 19 (q := (36, .iload_n 1, 37)) rfl
theorem c219_37 : pm_code 219 37 = some (.goto 39, 40) := pm_of cl219_0 20 (q := (37, .goto 39, 40)) rfl
theorem c219_40 : pm_code 219 40 = some (.iload 6, 42) := pm_of cl219_0 21 (q := (40, .iload 6, 42)) rfl
theorem c219_42 : pm_code 219 42 = some (.bipush 8, 44) := pm_of cl219_0 22 (q := (42, .bipush 8, 44)) rfl
theorem c219_44 : pm_code 219 44 = some (.if_icmp .ge 7, 47) := pm_of cl219_0 23 (q := (44, .if_icmp .ge 7, 47)) rfl
theorem c219_47 : pm_code 219 47 = some (.iload_n 2, 48) := pm_of cl219_0 24 (q := (47, .iload_n 2, 48)) rfl
theorem c219_48 : pm_code 219 48 = some (.goto 28, 51) := pm_of cl219_0 25 (q := (48, .goto 28, 51)) rfl
theorem c219_51 : pm_code 219 51 = some (.iload 6, 53) := pm_of cl219_0 26 (q := (51, .iload 6, 53)) rfl
theorem c219_53 : pm_code 219 53 = some (.bipush 12, 55) := pm_of cl219_0 27 (q := (53, .bipush 12, 55)) rfl
theorem c219_55 : pm_code 219 55 = some (.if_icmp .ge 7, 58) := pm_of cl219_0 28 (q := (55, .if_icmp .ge 7, 58)) rfl
theorem c219_58 : pm_code 219 58 = some (.iload_n 3, 59) := pm_of cl219_0 29 (q := (58, .iload_n 3, 59)) rfl
theorem c219_59 : pm_code 219 59 = some (.goto 17, 62) := pm_of cl219_0 30 (q := (59, .goto 17, 62)) rfl
theorem c219_62 : pm_code 219 62 = some (.iload 6, 64) := pm_of cl219_0 31 (q := (62, .iload 6, 64)) rfl
theorem c219_64 : pm_code 219 64 = some (.bipush 16, 66) := pm_of cl219_0 32 (q := (64, .bipush 16, 66)) rfl
theorem c219_66 : pm_code 219 66 = some (.if_icmp .ge 8, 69) := pm_of cl219_0 33 (q := (66, .if_icmp .ge 8, 69)) rfl
theorem c219_69 : pm_code 219 69 = some (.iload 4, 71) := pm_of cl219_0 34 (q := (69, .iload 4, 71)) rfl
theorem c219_71 : pm_code 219 71 = some (.goto 5, 74) := pm_of cl219_0 35 (q := (71, .goto 5, 74)) rfl
theorem c219_74 : pm_code 219 74 = some (.iload 5, 76) := pm_of cl219_0 36 (q := (74, .iload 5, 76)) rfl
theorem c219_76 : pm_code 219 76 = some (.istore 7, 78) := pm_of cl219_0 37 (q := (76, .istore 7, 78)) rfl
theorem c219_78 : pm_code 219 78 = some (.aload_n 0, 79) := pm_of cl219_0 38 (q := (78, .aload_n 0, 79)) rfl
theorem c219_79 : pm_code 219 79 = some (.getfield 20, 82) := pm_of cl219_0 39 (q := (79, .getfield 20, 82)) rfl
theorem cl219_1 : ([(82, .aload_n 0, 83), (83, .getfield 111, 86), (86, .iload 7, 88), (88, .bipush 24, 90), (90, .bipush 8, 92), (92, .iload 6, 94), (94, .iconst 4, 95), (95, .irem, 96), (96, .imul, 97), (97, .isub, 98), (98, .ishr, 99), (99, .sipush 255, 102), (102, .iand, 103), (103, .iastore, 104), (104, .aload_n 0, 105), (105, .dup, 106), (106, .getfield 111, 109), (109, .iconst 1, 110), (110, .iadd, 111), (111, .putfield 111, 114), (114, .iinc 6 1, 117), (117, .goto (-94), 120), (120, .aload_n 0, 121), (121, .getfield 111, 124), (124, .ireturn, 125)] : List (Nat × Instr × Nat)).all (fun q => decide (pm_code 219 q.1 = some q.2)) = true := by decide +kernel
theorem c219_82 : pm_code 219 82 = some (.aload_n 0, 83) := pm_of cl219_1 0 (q := (82, .aload_n 0, 83)) rfl
theorem c219_83 : pm_code 219 83 = some (.getfield 111, 86) := pm_of cl219_1 1 (q := (83, .getfield 111, 86)) rfl
theorem c219_86 : pm_code 219 86 = some (.iload 7, 88) := pm_of cl219_1 2 (q := (86, .iload 7, 88)) rfl
theorem c219_88 : pm_code 219 88 = some (.bipush 24, 90) := pm_of cl219_1 3 (q := (88, .bipush 24, 90)) rfl
theorem c219_90 : pm_code 219 90 = some (.bipush 8, 92) := pm_of cl219_1 4 (q := (90, .bipush 8, 92)) rfl
theorem c219_92 : pm_code 219 92 = some (.iload 6, 94) := pm_of cl219_1 5 (q := (92, .iload 6, 94)) rfl
theorem c219_94 : pm_code 219 94 = some (.iconst 4, 95) := pm_of cl219_1 6 (q := (94, .iconst 4, 95)) rfl
theorem c219_95 : pm_code 219 95 = some (.irem, 96) := pm_of cl219_1 7 (q := (95, .irem, 96)) rfl
theorem c219_96 : pm_code 219 96 = some (.imul, 97) := pm_of cl219_1 8 (q := (96, .imul, 97)) rfl
theorem c219_97 : pm_code 219 97 = some (.isub, 98) := pm_of cl219_1 9 (q := (97, .isub, 98)) rfl
theorem c219_98 : pm_code 219 98 = some (.ishr, 99) := pm_of cl219_1 10 (q := (98, .ishr, 99)) rfl
theorem c219_99 : pm_code 219 99 = some (.sipush 255, 102) := pm_of cl219_1 11 (q := (99, .sipush 255, 102)) rfl
theorem c219_102 : pm_code 219 102 = some (.iand, 103) := pm_of cl219_1 12 (q := (102, .iand, 103)) rfl
theorem c219_103 : pm_code 219 103 = some (.iastore, 104) := pm_of cl219_1 13 (q := (103, .iastore, 104)) rfl
theorem c219_104 : pm_code 219 104 = some (.aload_n 0, 105) := pm_of cl219_1 14 (q := (104, .aload_n 0, 105)) rfl
theorem c219_105 : pm_code 219 105 = some (.dup, 106) := pm_of cl219_1 15 (q := (105, .dup, 106)) rfl
theorem c219_106 : pm_code 219 106 = some (.getfield 111, 109) := pm_of cl219_1 16 (q := (106, .getfield 111, 109)) rfl
theorem c219_109 : pm_code 219 109 = some (.iconst 1, 110) := pm_of cl219_1 17 (q := (109, .iconst 1, 110)) rfl
theorem c219_110 : pm_code 219 110 = some (.iadd, 111) := pm_of cl219_1 18 (q := (110, .iadd, 111)) rfl
theorem c219_111 : pm_code 219 111 = some (.putfield 111, 114) := pm_of cl219_1 19 (q := (111, .putfield 111, 114)) rfl
theorem c219_114 : pm_code 219 114 = some (.iinc 6 1, 117) := pm_of cl219_1 20 (q := (114, .iinc 6 1, 117)) rfl
theorem c219_117 : pm_code 219 117 = some (.goto (-94), 120) := pm_of cl219_1 21 (q := (117, .goto (-94), 120)) rfl
theorem c219_120 : pm_code 219 120 = some (.aload_n 0, 121) := pm_of cl219_1 22 (q := (120, .aload_n 0, 121)) rfl
theorem c219_121 : pm_code 219 121 = some (.getfield 111, 124) := pm_of cl219_1 23 (q := (121, .getfield 111, 124)) rfl
theorem c219_124 : pm_code 219 124 = some (.ireturn, 125) := pm_of cl219_1 24 (q := (124, .ireturn, 125)) rfl
theorem k220 : pm_k 220 = 12 := by decide +kernel
theorem ml220 : pm_ml 220 = 1 := by decide +kernel
theorem rt220 : pm_rt 220 = (some .int) := by decide +kernel
theorem hh220 : pm_hh 220 = [] := by decide +kernel
theorem rc220 : pm_cl 12 = (pm_y 220).cls := by decide +kernel
theorem cl220_0 : ([(0, .aload_n 0, 1), (1, .iconst 0, 2), (2, .putfield 3, 5), (5, .aload_n 0, 6), (6, .getfield 17, 9), (9, .ireturn, 10)] : List (Nat × Instr × Nat)).all (fun q => decide (pm_code 220 q.1 = some q.2)) = true := by decide +kernel
theorem c220_0 : pm_code 220 0 = some (.aload_n 0, 1) := pm_of cl220_0 0 (q := (0, .aload_n 0, 1)) rfl
theorem c220_1 : pm_code 220 1 = some (.iconst 0, 2) := pm_of cl220_0 1 (q := (1, .iconst 0, 2)) rfl
theorem c220_2 : pm_code 220 2 = some (.putfield 3, 5) := pm_of cl220_0 2 (q := (2, .putfield 3, 5)) rfl
theorem c220_5 : pm_code 220 5 = some (.aload_n 0, 6) := pm_of cl220_0 3 (q := (5, .aload_n 0, 6)) rfl
theorem c220_6 : pm_code 220 6 = some (.getfield 17, 9) := pm_of cl220_0 4 (q := (6, .getfield 17, 9)) rfl
theorem c220_9 : pm_code 220 9 = some (.ireturn, 10) := pm_of cl220_0 5 (q := (9, .ireturn, 10)) rfl
theorem k221 : pm_k 221 = 12 := by decide +kernel
theorem ml221 : pm_ml 221 = 5 := by decide +kernel
theorem rt221 : pm_rt 221 = (some .int) := by decide +kernel
theorem hh221 : pm_hh 221 = [] := by decide +kernel
theorem rc221 : pm_cl 12 = (pm_y 221).cls := by decide +kernel
theorem cl221_0 : ([(0, .aload_n 0, 1), (1, .iconst 0, 2), (2, .putfield 3, 5), (5, .aload_n 0, 6), (6, .iload_n 1, 7), (7, .ifCond .lt 15, 10), (10, .iload_n 1, 11), (11, .aload_n 0, 12), (12, .getfield 111, 15), (15, .if_icmp .gt 7, 18), (18, .iconst 1, 19), (19, .goto 4, 22), (22, .iconst 0, 23), (23, .iconst 1, 24), (24, .iconst 1, 25), (25, .invokevirtual 207, 28), (28, .ifCond .ne 5, 31), (31, .iconst 0, 32), (32, .ireturn, 33), (33, .aload_n 0, 34), (34, .iload_n 1, 35), (35, .invokevirtual 211, 38), (38, .aload_n 0, 39), (39, .invokevirtual 105, 42), (42, .iconst 0, 43), (43, .istore_n 2, 44), (44, .aload_n 0, 45), (45, .invokevirtual 143, 48), (48, .ifCond .eq 160, 51), (51, .aload_n 0, 52), (52, .invokevirtual 215, 55), (55, .ifCond .eq 153, 58), (58, .aload_n 0, 59), (59, .ldc 218, 61), (61, .invokevirtual 220, 64), (64, .istore_n 3, 65), (65, .aload_n 0, 66), (66, .invokevirtual 224, 69), (69, .istore 4, 71), (71, .iload_n 3, 72)] : List (Nat × Instr × Nat)).all (fun q => decide (pm_code 221 q.1 = some q.2)) = true := by decide +kernel
theorem c221_0 : pm_code 221 0 = some (.aload_n 0, 1) := pm_of cl221_0 0 (q := (0, .aload_n 0, 1)) rfl
theorem c221_1 : pm_code 221 1 = some (.iconst 0, 2) := pm_of cl221_0 1 (q := (1, .iconst 0, 2)) rfl
theorem c221_2 : pm_code 221 2 = some (.putfield 3, 5) := pm_of cl221_0 2 (q := (2, .putfield 3, 5)) rfl
theorem c221_5 : pm_code 221 5 = some (.aload_n 0, 6) := pm_of cl221_0 3 (q := (5, .aload_n 0, 6)) rfl
theorem c221_6 : pm_code 221 6 = some (.iload_n 1, 7) := pm_of cl221_0 4 (q := (6, .iload_n 1, 7)) rfl
theorem c221_7 : pm_code 221 7 = some (.ifCond .lt 15, 10) := pm_of cl221_0 5 (q := (7, .ifCond .lt 15, 10)) rfl
theorem c221_10 : pm_code 221 10 = some (.iload_n 1, 11) := pm_of cl221_0 6 (q := (10, .iload_n 1, 11)) rfl
theorem c221_11 : pm_code 221 11 = some (.aload_n 0, 12) := pm_of cl221_0 7 (q := (11, .aload_n 0, 12)) rfl
theorem c221_12 : pm_code 221 12 = some (.getfield 111, 15) := pm_of cl221_0 8 (q := (12, .getfield 111, 15)) rfl
theorem c221_15 : pm_code 221 15 = some (.if_icmp .gt 7, 18) := pm_of cl221_0 9 (q := (15, .if_icmp .gt 7, 18)) rfl
theorem c221_18 : pm_code 221 18 = some (.iconst 1, 19) := pm_of cl221_0 10 (q := (18, .iconst 1, 19)) rfl
theorem c221_19 : pm_code 221 19 = some (.goto 4, 22) := pm_of cl221_0 11 (q := (19, .goto 4, 22)) rfl
theorem c221_22 : pm_code 221 22 = some (.iconst 0, 23) := pm_of cl221_0 12 (q := (22, .iconst 0, 23)) rfl
theorem c221_23 : pm_code 221 23 = some (.iconst 1, 24) := pm_of cl221_0 13 (q := (23, .iconst 1, 24)) rfl
theorem c221_24 : pm_code 221 24 = some (.iconst 1, 25) := pm_of cl221_0 14 (q := (24, .iconst 1, 25)) rfl
theorem c221_25 : pm_code 221 25 = some (.invokevirtual 207, 28) := pm_of cl221_0 15 (q := (25, .invokevirtual 207, 28)) rfl
theorem c221_28 : pm_code 221 28 = some (.ifCond .ne 5, 31) := pm_of cl221_0 16 (q := (28, .ifCond .ne 5, 31)) rfl
theorem c221_31 : pm_code 221 31 = some (.iconst 0, 32) := pm_of cl221_0 17 (q := (31, .iconst 0, 32)) rfl
theorem c221_32 : pm_code 221 32 = some (.ireturn, 33) := pm_of cl221_0 18 (q := (32, .ireturn, 33)) rfl
theorem c221_33 : pm_code 221 33 = some (.aload_n 0, 34) := pm_of cl221_0 19 (q := (33, .aload_n 0, 34)) rfl
theorem c221_34 : pm_code 221 34 = some (.iload_n 1, 35) := pm_of cl221_0 20 (q := (34, .iload_n 1, 35)) rfl
theorem c221_35 : pm_code 221 35 = some (.invokevirtual 211, 38) := pm_of cl221_0 21 (q := (35, .invokevirtual 211, 38)) rfl
theorem c221_38 : pm_code 221 38 = some (.aload_n 0, 39) := pm_of cl221_0 22 (q := (38, .aload_n 0, 39)) rfl
theorem c221_39 : pm_code 221 39 = some (.invokevirtual 105, 42) := pm_of cl221_0 23 (q := (39, .invokevirtual 105, 42)) rfl
theorem c221_42 : pm_code 221 42 = some (.iconst 0, 43) := pm_of cl221_0 24 (q := (42, .iconst 0, 43)) rfl
theorem c221_43 : pm_code 221 43 = some (.istore_n 2, 44) := pm_of cl221_0 25 (q := (43, .istore_n 2, 44)) rfl
theorem c221_44 : pm_code 221 44 = some (.aload_n 0, 45) := pm_of cl221_0 26 (q := (44, .aload_n 0, 45)) rfl
theorem c221_45 : pm_code 221 45 = some (.invokevirtual 143, 48) := pm_of cl221_0 27 (q := (45, .invokevirtual 143, 48)) rfl
theorem c221_48 : pm_code 221 48 = some (.ifCond .eq 160, 51) := pm_of cl221_0 28 (q := (48, .ifCond .eq 160, 51)) rfl
theorem c221_51 : pm_code 221 51 = some (.aload_n 0, 52) := pm_of cl221_0 29 (q := (51, .aload_n 0, 52)) rfl
theorem c221_52 : pm_code 221 52 = some (.invokevirtual 215, 55) := pm_of cl221_0 30 (q := (52, .invokevirtual 215, 55)) rfl
theorem c221_55 : pm_code 221 55 = some (.ifCond .eq 153, 58) := pm_of cl221_0 31 (q := (55, .ifCond .eq 153, 58)) rfl
theorem c221_58 : pm_code 221 58 = some (.aload_n 0, 59) := pm_of cl221_0 32 (q := (58, .aload_n 0, 59)) rfl
theorem c221_59 : pm_code 221 59 = some (.ldc 218, 61) := pm_of cl221_0 33 (q := (59, .ldc 218, 61)) rfl
theorem c221_61 : pm_code 221 61 = some (.invokevirtual 220, 64) := pm_of cl221_0 34 (q := (61, .invokevirtual 220, 64)) rfl
theorem c221_64 : pm_code 221 64 = some (.istore_n 3, 65) := pm_of cl221_0 35 (q := (64, .istore_n 3, 65)) rfl
theorem c221_65 : pm_code 221 65 = some (.aload_n 0, 66) := pm_of cl221_0 36 (q := (65, .aload_n 0, 66)) rfl
theorem c221_66 : pm_code 221 66 = some (.invokevirtual 224, 69) := pm_of cl221_0 37 (q := (66, .invokevirtual 224, 69)) rfl
theorem c221_69 : pm_code 221 69 = some (.istore 4, 71) := pm_of cl221_0 38 (q := (69, .istore 4, 71)) rfl
theorem c221_71 : pm_code 221 71 = some (.iload_n 3, 72) := pm_of cl221_0 39 (q := (71, .iload_n 3, 72)) rfl
theorem cl221_1 : ([(72, .ifCond .ne 23, 75), (75, .iload 4, 77), (77, .invokestatic 227, 80), (80, .ifCond .ne 15, 83), (83, .aload_n 0, 84), (84, .iconst 1, 85), (85, .aload_n 0, 86), (86, .getfield 120, 89), (89, .invokevirtual 150, 92), (92, .goto 55, 95), (95, .iload_n 2, 96), (96, .bipush 60, 98), (98, .if_icmp .eq 40, 101), (101, .iload 4, 103), (103, .ldc 194, 105), (105, .invokestatic 195, 108), (108, .if_icmp .ne 12, 111), (111, .aload_n 0, 112), (112, .getfield 157, 115), (115, .bipush 8, 117), (117, .if_icmp .eq 21, 120), (120, .iload 4, 122), (122, .ldc 203, 124), (124, .invokestatic 195, 127), (127, .if_icmp .ne 20, 130), (130, .aload_n 0, 131), (131, .getfield 160, 134), (134, .iconst 5, 135), (135, .if_icmp .ne 12, 138), (138, .aload_n 0, 139), (139, .iconst 3, 140), (140, .aload_n 0, 141), (141, .getfield 120, 144), (144, .invokevirtual 150, 147), (147, .aload_n 0, 148), (148, .invokevirtual 143, 151), (151, .ifCond .ne 6, 154), (154, .goto 54, 157), (157, .iload_n 3, 158), (158, .ifCond .eq 17, 161)] : List (Nat × Instr × Nat)).all (fun q => decide (pm_code 221 q.1 = some q.2)) = true := by decide +kernel
theorem c221_72 : pm_code 221 72 = some (.ifCond .ne 23, 75) := pm_of cl221_1 0 (q := (72, .ifCond .ne 23, 75)) rfl
theorem c221_75 : pm_code 221 75 = some (.iload 4, 77) := pm_of cl221_1 1 (q := (75, .iload 4, 77)) rfl
theorem c221_77 : pm_code 221 77 = some (.invokestatic 227, 80) := pm_of cl221_1 2 (q := (77, .invokestatic 227, 80)) rfl
theorem c221_80 : pm_code 221 80 = some (.ifCond .ne 15, 83) := pm_of cl221_1 3 (q := (80, .ifCond .ne 15, 83)) rfl
theorem c221_83 : pm_code 221 83 = some (.aload_n 0, 84) := pm_of cl221_1 4 (q := (83, .aload_n 0, 84)) rfl
theorem c221_84 : pm_code 221 84 = some (.iconst 1, 85) := pm_of cl221_1 5 (q := (84, .iconst 1, 85)) rfl
theorem c221_85 : pm_code 221 85 = some (.aload_n 0, 86) := pm_of cl221_1 6 (q := (85, .aload_n 0, 86)) rfl
theorem c221_86 : pm_code 221 86 = some (.getfield 120, 89) := pm_of cl221_1 7 (q := (86, .getfield 120, 89)) rfl
theorem c221_89 : pm_code 221 89 = some (.invokevirtual 150, 92) := pm_of cl221_1 8 (q := (89, .invokevirtual 150, 92)) rfl
theorem c221_92 : pm_code 221 92 = some (.goto 55, 95) := pm_of cl221_1 9 (q := (92, .goto 55, 95)) rfl
theorem c221_95 : pm_code 221 95 = some (.iload_n 2, 96) := pm_of cl221_1 10 (q := (95, .iload_n 2, 96)) rfl
theorem c221_96 : pm_code 221 96 = some (.bipush 60, 98) := pm_of cl221_1 11 (q := (96, .bipush 60, 98)) rfl
theorem c221_98 : pm_code 221 98 = some (.if_icmp .eq 40, 101) := pm_of cl221_1 12 (q := (98, .if_icmp .eq 40, 101)) rfl
theorem c221_101 : pm_code 221 101 = some (.iload 4, 103) := pm_of cl221_1 13 (q := (101, .iload 4, 103)) rfl
theorem c221_103 : pm_code 221 103 = some (.ldc 194, 105) := pm_of cl221_1 14 (q := (103, .ldc 194, 105)) rfl
theorem c221_105 : pm_code 221 105 = some (.invokestatic 195, 108) := pm_of cl221_1 15 (q := (105, .invokestatic 195, 108)) rfl
theorem c221_108 : pm_code 221 108 = some (.if_icmp .ne 12, 111) := pm_of cl221_1 16 (q := (108, .if_icmp .ne 12, 111)) rfl
theorem c221_111 : pm_code 221 111 = some (.aload_n 0, 112) := pm_of cl221_1 17 (q := (111, .aload_n 0, 112)) rfl
theorem c221_112 : pm_code 221 112 = some (.getfield 157, 115) := pm_of cl221_1 18 (q := (112, .getfield 157, 115)) rfl
theorem c221_115 : pm_code 221 115 = some (.bipush 8, 117) := pm_of cl221_1 19 (q := (115, .bipush 8, 117)) rfl
theorem c221_117 : pm_code 221 117 = some (.if_icmp .eq 21, 120) := pm_of cl221_1 20 (q := (117, .if_icmp .eq 21, 120)) rfl
theorem c221_120 : pm_code 221 120 = some (.iload 4, 122) := pm_of cl221_1 21 (q := (120, .iload 4, 122)) rfl
theorem c221_122 : pm_code 221 122 = some (.ldc 203, 124) := pm_of cl221_1 22 (q := (122, .ldc 203, 124)) rfl
theorem c221_124 : pm_code 221 124 = some (.invokestatic 195, 127) := pm_of cl221_1 23 (q := (124, .invokestatic 195, 127)) rfl
theorem c221_127 : pm_code 221 127 = some (.if_icmp .ne 20, 130) := pm_of cl221_1 24 (q := (127, .if_icmp .ne 20, 130)) rfl
theorem c221_130 : pm_code 221 130 = some (.aload_n 0, 131) := pm_of cl221_1 25 (q := (130, .aload_n 0, 131)) rfl
theorem c221_131 : pm_code 221 131 = some (.getfield 160, 134) := pm_of cl221_1 26 (q := (131, .getfield 160, 134)) rfl
theorem c221_134 : pm_code 221 134 = some (.iconst 5, 135) := pm_of cl221_1 27 (q := (134, .iconst 5, 135)) rfl
theorem c221_135 : pm_code 221 135 = some (.if_icmp .ne 12, 138) := pm_of cl221_1 28 (q := (135, .if_icmp .ne 12, 138)) rfl
theorem c221_138 : pm_code 221 138 = some (.aload_n 0, 139) := pm_of cl221_1 29 (q := (138, .aload_n 0, 139)) rfl
theorem c221_139 : pm_code 221 139 = some (.iconst 3, 140) := pm_of cl221_1 30 (q := (139, .iconst 3, 140)) rfl
theorem c221_140 : pm_code 221 140 = some (.aload_n 0, 141) := pm_of cl221_1 31 (q := (140, .aload_n 0, 141)) rfl
theorem c221_141 : pm_code 221 141 = some (.getfield 120, 144) := pm_of cl221_1 32 (q := (141, .getfield 120, 144)) rfl
theorem c221_144 : pm_code 221 144 = some (.invokevirtual 150, 147) := pm_of cl221_1 33 (q := (144, .invokevirtual 150, 147)) rfl
theorem c221_147 : pm_code 221 147 = some (.aload_n 0, 148) := pm_of cl221_1 34 (q := (147, .aload_n 0, 148)) rfl
theorem c221_148 : pm_code 221 148 = some (.invokevirtual 143, 151) := pm_of cl221_1 35 (q := (148, .invokevirtual 143, 151)) rfl
theorem c221_151 : pm_code 221 151 = some (.ifCond .ne 6, 154) := pm_of cl221_1 36 (q := (151, .ifCond .ne 6, 154)) rfl
theorem c221_154 : pm_code 221 154 = some (.goto 54, 157) := pm_of cl221_1 37 (q := (154, .goto 54, 157)) rfl
theorem c221_157 : pm_code 221 157 = some (.iload_n 3, 158) := pm_of cl221_1 38 (q := (157, .iload_n 3, 158)) rfl
theorem c221_158 : pm_code 221 158 = some (.ifCond .eq 17, 161) := pm_of cl221_1 39 (q := (158, .ifCond .eq 17, 161)) rfl
theorem cl221_2 : ([(161, .aload_n 0, 162), (162, .dup, 163), (163, .getfield 120, 166), (166, .bipush 7, 168), (168, .iadd, 169), (169, .putfield 120, 172), (172, .goto 7, 175), (175, .aload_n 0, 176), (176, .invokevirtual 230, 179), (179, .iload_n 3, 180), (180, .ifCond .eq 10, 183), (183, .aload_n 0, 184), (184, .invokevirtual 233, 187), (187, .goto 9, 190), (190, .aload_n 0, 191), (191, .iload 4, 193), (193, .invokevirtual 236, 196), (196, .aload_n 0, 197), (197, .bipush 59, 199), (199, .invokevirtual 239, 202), (202, .iinc 2 1, 205), (205, .goto (-161), 208), (208, .aload_n 0, 209), (209, .aload_n 0, 210), (210, .getfield 157, 213), (213, .invokevirtual 242, 216), (216, .istore_n 3, 217), (217, .aload_n 0, 218), (218, .getfield 114, 221), (221, .iconst (-1), 222), (222, .if_icmp .ne 7, 225), (225, .aload_n 0, 226), (226, .invokevirtual 108, 229), (229, .iload_n 3, 230), (230, .ireturn, 231)] : List (Nat × Instr × Nat)).all (fun q => decide (pm_code 221 q.1 = some q.2)) = true := by decide +kernel
theorem c221_161 : pm_code 221 161 = some (.aload_n 0, 162) := pm_of cl221_2 0 (q := (161, .aload_n 0, 162)) rfl
theorem c221_162 : pm_code 221 162 = some (.dup, 163) := pm_of cl221_2 1 (q := (162, .dup, 163)) rfl
theorem c221_163 : pm_code 221 163 = some (.getfield 120, 166) := pm_of cl221_2 2 (q := (163, .getfield 120, 166)) rfl
theorem c221_166 : pm_code 221 166 = some (.bipush 7, 168) := pm_of cl221_2 3 (q := (166, .bipush 7, 168)) rfl
theorem c221_168 : pm_code 221 168 = some (.iadd, 169) := pm_of cl221_2 4 (q := (168, .iadd, 169)) rfl
theorem c221_169 : pm_code 221 169 = some (.putfield 120, 172) := pm_of cl221_2 5 (q := (169, .putfield 120, 172)) rfl
theorem c221_172 : pm_code 221 172 = some (.goto 7, 175) := pm_of cl221_2 6 (q := (172, .goto 7, 175)) rfl
theorem c221_175 : pm_code 221 175 = some (.aload_n 0, 176) := pm_of cl221_2 7 (q := (175, .aload_n 0, 176)) rfl
theorem c221_176 : pm_code 221 176 = some (.invokevirtual 230, 179) := pm_of cl221_2 8 (q := (176, .invokevirtual 230, 179)) rfl
theorem c221_179 : pm_code 221 179 = some (.iload_n 3, 180) := pm_of cl221_2 9 (q := (179, .iload_n 3, 180)) rfl
theorem c221_180 : pm_code 221 180 = some (.ifCond .eq 10, 183) := pm_of cl221_2 10 (q := (180, .ifCond .eq 10, 183)) rfl
theorem c221_183 : pm_code 221 183 = some (.aload_n 0, 184) := pm_of cl221_2 11 (q := (183, .aload_n 0, 184)) rfl
theorem c221_184 : pm_code 221 184 = some (.invokevirtual 233, 187) := pm_of cl221_2 12 (q := (184, .invokevirtual 233, 187)) rfl
theorem c221_187 : pm_code 221 187 = some (.goto 9, 190) := pm_of cl221_2 13 (q := (187, .goto 9, 190)) rfl
theorem c221_190 : pm_code 221 190 = some (.aload_n 0, 191) := pm_of cl221_2 14 (q := (190, .aload_n 0, 191)) rfl
theorem c221_191 : pm_code 221 191 = some (.iload 4, 193) := pm_of cl221_2 15 (q := (191, .iload 4, 193)) rfl
theorem c221_193 : pm_code 221 193 = some (.invokevirtual 236, 196) := pm_of cl221_2 16 (q := (193, .invokevirtual 236, 196)) rfl
theorem c221_196 : pm_code 221 196 = some (.aload_n 0, 197) := pm_of cl221_2 17 (q := (196, .aload_n 0, 197)) rfl
theorem c221_197 : pm_code 221 197 = some (.bipush 59, 199) := pm_of cl221_2 18 (q := (197, .bipush 59, 199)) rfl
theorem c221_199 : pm_code 221 199 = some (.invokevirtual 239, 202) := pm_of cl221_2 19 (q := (199, .invokevirtual 239, 202)) rfl
theorem c221_202 : pm_code 221 202 = some (.iinc 2 1, 205) := pm_of cl221_2 20 (q := (202, .iinc 2 1, 205)) rfl
theorem c221_205 : pm_code 221 205 = some (.goto (-161), 208) := pm_of cl221_2 21 (q := (205, .goto (-161), 208)) rfl
theorem c221_208 : pm_code 221 208 = some (.aload_n 0, 209) := pm_of cl221_2 22 (q := (208, .aload_n 0, 209)) rfl
theorem c221_209 : pm_code 221 209 = some (.aload_n 0, 210) := pm_of cl221_2 23 (q := (209, .aload_n 0, 210)) rfl
theorem c221_210 : pm_code 221 210 = some (.getfield 157, 213) := pm_of cl221_2 24 (q := (210, .getfield 157, 213)) rfl
theorem c221_213 : pm_code 221 213 = some (.invokevirtual 242, 216) := pm_of cl221_2 25 (q := (213, .invokevirtual 242, 216)) rfl
theorem c221_216 : pm_code 221 216 = some (.istore_n 3, 217) := pm_of cl221_2 26 (q := (216, .istore_n 3, 217)) rfl
theorem c221_217 : pm_code 221 217 = some (.aload_n 0, 218) := pm_of cl221_2 27 (q := (217, .aload_n 0, 218)) rfl
theorem c221_218 : pm_code 221 218 = some (.getfield 114, 221) := pm_of cl221_2 28 (q := (218, .getfield 114, 221)) rfl
theorem c221_221 : pm_code 221 221 = some (.iconst (-1), 222) := pm_of cl221_2 29 (q := (221, .iconst (-1), 222)) rfl
theorem c221_222 : pm_code 221 222 = some (.if_icmp .ne 7, 225) := pm_of cl221_2 30 (q := (222, .if_icmp .ne 7, 225)) rfl
theorem c221_225 : pm_code 221 225 = some (.aload_n 0, 226) := pm_of cl221_2 31 (q := (225, .aload_n 0, 226)) rfl
theorem c221_226 : pm_code 221 226 = some (.invokevirtual 108, 229) := pm_of cl221_2 32 (q := (226, .invokevirtual 108, 229)) rfl
theorem c221_229 : pm_code 221 229 = some (.iload_n 3, 230) := pm_of cl221_2 33 (q := (229, .iload_n 3, 230)) rfl
theorem c221_230 : pm_code 221 230 = some (.ireturn, 231) := pm_of cl221_2 34 (q := (230, .ireturn, 231)) rfl
theorem k222 : pm_k 222 = 12 := by decide +kernel
theorem ml222 : pm_ml 222 = 4 := by decide +kernel
theorem rt222 : pm_rt 222 = (some .boolean) := by decide +kernel
theorem hh222 : pm_hh 222 = [] := by decide +kernel
theorem rc222 : pm_cl 12 = (pm_y 222).cls := by decide +kernel
theorem cl222_0 : ([(0, .iload_n 1, 1), (1, .ifCond .ne 25, 4), (4, .aload_n 0, 5), (5, .getfield 3, 8), (8, .ifCond .ne 18, 11), (11, .aload_n 0, 12), (12, .iload_n 2, 13), (13, .putfield 3, 16), (16, .aload_n 0, 17), (17, .getfield 7, 20), (20, .iload_n 3, 21), (21, .dup2, 22), (22, .iaload, 23), (23, .iconst 1, 24), (24, .iadd, 25), (25, .iastore, 26), (26, .aload_n 0, 27), (27, .getfield 3, 30), (30, .ifCond .ne 7, 33), (33, .iconst 1, 34), (34, .goto 4, 37), (37, .iconst 0, 38), (38, .ireturn, 39)] : List (Nat × Instr × Nat)).all (fun q => decide (pm_code 222 q.1 = some q.2)) = true := by decide +kernel
theorem c222_0 : pm_code 222 0 = some (.iload_n 1, 1) := pm_of cl222_0 0 (q := (0, .iload_n 1, 1)) rfl
theorem c222_1 : pm_code 222 1 = some (.ifCond .ne 25, 4) := pm_of cl222_0 1 (q := (1, .ifCond .ne 25, 4)) rfl
theorem c222_4 : pm_code 222 4 = some (.aload_n 0, 5) := pm_of cl222_0 2 (q := (4, .aload_n 0, 5)) rfl
theorem c222_5 : pm_code 222 5 = some (.getfield 3, 8) := pm_of cl222_0 3 (q := (5, .getfield 3, 8)) rfl
theorem c222_8 : pm_code 222 8 = some (.ifCond .ne 18, 11) := pm_of cl222_0 4 (q := (8, .ifCond .ne 18, 11)) rfl
theorem c222_11 : pm_code 222 11 = some (.aload_n 0, 12) := pm_of cl222_0 5 (q := (11, .aload_n 0, 12)) rfl
theorem c222_12 : pm_code 222 12 = some (.iload_n 2, 13) := pm_of cl222_0 6 (q := (12, .iload_n 2, 13)) rfl
theorem c222_13 : pm_code 222 13 = some (.putfield 3, 16) := pm_of cl222_0 7 (q := (13, .putfield 3, 16)) rfl
theorem c222_16 : pm_code 222 16 = some (.aload_n 0, 17) := pm_of cl222_0 8 (q := (16, .aload_n 0, 17)) rfl
theorem c222_17 : pm_code 222 17 = some (.getfield 7, 20) := pm_of cl222_0 9 (q := (17, .getfield 7, 20)) rfl
theorem c222_20 : pm_code 222 20 = some (.iload_n 3, 21) := pm_of cl222_0 10 (q := (20, .iload_n 3, 21)) rfl
theorem c222_21 : pm_code 222 21 = some (.dup2, 22) := pm_of cl222_0 11 (q := (21, .dup2, 22)) rfl
theorem c222_22 : pm_code 222 22 = some (.iaload, 23) := pm_of cl222_0 12 (q := (22, .iaload, 23)) rfl
theorem c222_23 : pm_code 222 23 = some (.iconst 1, 24) := pm_of cl222_0 13 (q := (23, .iconst 1, 24)) rfl
theorem c222_24 : pm_code 222 24 = some (.iadd, 25) := pm_of cl222_0 14 (q := (24, .iadd, 25)) rfl
theorem c222_25 : pm_code 222 25 = some (.iastore, 26) := pm_of cl222_0 15 (q := (25, .iastore, 26)) rfl
theorem c222_26 : pm_code 222 26 = some (.aload_n 0, 27) := pm_of cl222_0 16 (q := (26, .aload_n 0, 27)) rfl
theorem c222_27 : pm_code 222 27 = some (.getfield 3, 30) := pm_of cl222_0 17 (q := (27, .getfield 3, 30)) rfl
theorem c222_30 : pm_code 222 30 = some (.ifCond .ne 7, 33) := pm_of cl222_0 18 (q := (30, .ifCond .ne 7, 33)) rfl
theorem c222_33 : pm_code 222 33 = some (.iconst 1, 34) := pm_of cl222_0 19 (q := (33, .iconst 1, 34)) rfl
theorem c222_34 : pm_code 222 34 = some (.goto 4, 37) := pm_of cl222_0 20 (q := (34, .goto 4, 37)) rfl
theorem c222_37 : pm_code 222 37 = some (.iconst 0, 38) := pm_of cl222_0 21 (q := (37, .iconst 0, 38)) rfl
theorem c222_38 : pm_code 222 38 = some (.ireturn, 39) := pm_of cl222_0 22 (q := (38, .ireturn, 39)) rfl
theorem k223 : pm_k 223 = 12 := by decide +kernel
theorem ml223 : pm_ml 223 = 2 := by decide +kernel
theorem rt223 : pm_rt 223 = none := by decide +kernel
theorem hh223 : pm_hh 223 = [] := by decide +kernel
theorem rc223 : pm_cl 12 = (pm_y 223).cls := by decide +kernel
theorem cl223_0 : ([(0, .aload_n 0, 1), (1, .iconst 0, 2), (2, .putfield 111, 5), (5, .aload_n 0, 6), (6, .iconst (-1), 7), (7, .putfield 17, 10), (10, .aload_n 0, 11), (11, .iload_n 1, 12), (12, .putfield 123, 15), (15, .aload_n 0, 16), (16, .iconst 0, 17), (17, .putfield 120, 20), (20, .aload_n 0, 21), (21, .iconst (-1), 22), (22, .putfield 114, 25), (25, .aload_n 0, 26), (26, .iconst 0, 27), (27, .putfield 154, 30), (30, .return_, 31)] : List (Nat × Instr × Nat)).all (fun q => decide (pm_code 223 q.1 = some q.2)) = true := by decide +kernel
theorem c223_0 : pm_code 223 0 = some (.aload_n 0, 1) := pm_of cl223_0 0 (q := (0, .aload_n 0, 1)) rfl
theorem c223_1 : pm_code 223 1 = some (.iconst 0, 2) := pm_of cl223_0 1 (q := (1, .iconst 0, 2)) rfl
theorem c223_2 : pm_code 223 2 = some (.putfield 111, 5) := pm_of cl223_0 2 (q := (2, .putfield 111, 5)) rfl
theorem c223_5 : pm_code 223 5 = some (.aload_n 0, 6) := pm_of cl223_0 3 (q := (5, .aload_n 0, 6)) rfl
theorem c223_6 : pm_code 223 6 = some (.iconst (-1), 7) := pm_of cl223_0 4 (q := (6, .iconst (-1), 7)) rfl
theorem c223_7 : pm_code 223 7 = some (.putfield 17, 10) := pm_of cl223_0 5 (q := (7, .putfield 17, 10)) rfl
theorem c223_10 : pm_code 223 10 = some (.aload_n 0, 11) := pm_of cl223_0 6 (q := (10, .aload_n 0, 11)) rfl
theorem c223_11 : pm_code 223 11 = some (.iload_n 1, 12) := pm_of cl223_0 7 (q := (11, .iload_n 1, 12)) rfl
theorem c223_12 : pm_code 223 12 = some (.putfield 123, 15) := pm_of cl223_0 8 (q := (12, .putfield 123, 15)) rfl
theorem c223_15 : pm_code 223 15 = some (.aload_n 0, 16) := pm_of cl223_0 9 (q := (15, .aload_n 0, 16)) rfl
theorem c223_16 : pm_code 223 16 = some (.iconst 0, 17) := pm_of cl223_0 10 (q := (16, .iconst 0, 17)) rfl
theorem c223_17 : pm_code 223 17 = some (.putfield 120, 20) := pm_of cl223_0 11 (q := (17, .putfield 120, 20)) rfl
theorem c223_20 : pm_code 223 20 = some (.aload_n 0, 21) := pm_of cl223_0 12 (q := (20, .aload_n 0, 21)) rfl
theorem c223_21 : pm_code 223 21 = some (.iconst (-1), 22) := pm_of cl223_0 13 (q := (21, .iconst (-1), 22)) rfl
theorem c223_22 : pm_code 223 22 = some (.putfield 114, 25) := pm_of cl223_0 14 (q := (22, .putfield 114, 25)) rfl
theorem c223_25 : pm_code 223 25 = some (.aload_n 0, 26) := pm_of cl223_0 15 (q := (25, .aload_n 0, 26)) rfl
theorem c223_26 : pm_code 223 26 = some (.iconst 0, 27) := pm_of cl223_0 16 (q := (26, .iconst 0, 27)) rfl
theorem c223_27 : pm_code 223 27 = some (.putfield 154, 30) := pm_of cl223_0 17 (q := (27, .putfield 154, 30)) rfl
theorem c223_30 : pm_code 223 30 = some (.return_, 31) := pm_of cl223_0 18 (q := (30, .return_, 31)) rfl
theorem k224 : pm_k 224 = 12 := by decide +kernel
theorem ml224 : pm_ml 224 = 1 := by decide +kernel
theorem rt224 : pm_rt 224 = (some .boolean) := by decide +kernel
theorem hh224 : pm_hh 224 = [] := by decide +kernel
theorem rc224 : pm_cl 12 = (pm_y 224).cls := by decide +kernel
theorem cl224_0 : ([(0, .aload_n 0, 1), (1, .getfield 114, 4), (4, .iconst (-1), 5), (5, .if_icmp .ne 7, 8), (8, .iconst 1, 9), (9, .goto 4, 12), (12, .iconst 0, 13), (13, .ireturn, 14)] : List (Nat × Instr × Nat)).all (fun q => decide (pm_code 224 q.1 = some q.2)) = true := by decide +kernel
theorem c224_0 : pm_code 224 0 = some (.aload_n 0, 1) := pm_of cl224_0 0 (q := (0, .aload_n 0, 1)) rfl
theorem c224_1 : pm_code 224 1 = some (.getfield 114, 4) := pm_of cl224_0 1 (q := (1, .getfield 114, 4)) rfl
theorem c224_4 : pm_code 224 4 = some (.iconst (-1), 5) := pm_of cl224_0 2 (q := (4, .iconst (-1), 5)) rfl
theorem c224_5 : pm_code 224 5 = some (.if_icmp .ne 7, 8) := pm_of cl224_0 3 (q := (5, .if_icmp .ne 7, 8)) rfl
theorem c224_8 : pm_code 224 8 = some (.iconst 1, 9) := pm_of cl224_0 4 (q := (8, .iconst 1, 9)) rfl
theorem c224_9 : pm_code 224 9 = some (.goto 4, 12) := pm_of cl224_0 5 (q := (9, .goto 4, 12)) rfl
theorem c224_12 : pm_code 224 12 = some (.iconst 0, 13) := pm_of cl224_0 6 (q := (12, .iconst 0, 13)) rfl
theorem c224_13 : pm_code 224 13 = some (.ireturn, 14) := pm_of cl224_0 7 (q := (13, .ireturn, 14)) rfl
theorem k225 : pm_k 225 = 12 := by decide +kernel
theorem ml225 : pm_ml 225 = 1 := by decide +kernel
theorem rt225 : pm_rt 225 = (some .boolean) := by decide +kernel
theorem hh225 : pm_hh 225 = [] := by decide +kernel
theorem rc225 : pm_cl 12 = (pm_y 225).cls := by decide +kernel
theorem cl225_0 : ([(0, .aload_n 0, 1), (1, .invokevirtual 126, 4), (4, .pop, 5), (5, .aload_n 0, 6), (6, .getfield 120, 9), (9, .aload_n 0, 10), (10, .getfield 123, 13), (13, .if_icmp .ge 7, 16), (16, .iconst 1, 17), (17, .goto 4, 20), (20, .iconst 0, 21), (21, .ireturn, 22)] : List (Nat × Instr × Nat)).all (fun q => decide (pm_code 225 q.1 = some q.2)) = true := by decide +kernel
theorem c225_0 : pm_code 225 0 = some (.aload_n 0, 1) := pm_of cl225_0 0 (q := (0, .aload_n 0, 1)) rfl
theorem c225_1 : pm_code 225 1 = some (.invokevirtual 126, 4) := pm_of cl225_0 1 (q := (1, .invokevirtual 126, 4)) rfl
theorem c225_4 : pm_code 225 4 = some (.pop, 5) := pm_of cl225_0 2 (q := (4, .pop, 5)) rfl
theorem c225_5 : pm_code 225 5 = some (.aload_n 0, 6) := pm_of cl225_0 3 (q := (5, .aload_n 0, 6)) rfl
theorem c225_6 : pm_code 225 6 = some (.getfield 120, 9) := pm_of cl225_0 4 (q := (6, .getfield 120, 9)) rfl
theorem c225_9 : pm_code 225 9 = some (.aload_n 0, 10) := pm_of cl225_0 5 (q := (9, .aload_n 0, 10)) rfl
theorem c225_10 : pm_code 225 10 = some (.getfield 123, 13) := pm_of cl225_0 6 (q := (10, .getfield 123, 13)) rfl
theorem c225_13 : pm_code 225 13 = some (.if_icmp .ge 7, 16) := pm_of cl225_0 7 (q := (13, .if_icmp .ge 7, 16)) rfl
theorem c225_16 : pm_code 225 16 = some (.iconst 1, 17) := pm_of cl225_0 8 (q := (16, .iconst 1, 17)) rfl
theorem c225_17 : pm_code 225 17 = some (.goto 4, 20) := pm_of cl225_0 9 (q := (17, .goto 4, 20)) rfl
theorem c225_20 : pm_code 225 20 = some (.iconst 0, 21) := pm_of cl225_0 10 (q := (20, .iconst 0, 21)) rfl
theorem c225_21 : pm_code 225 21 = some (.ireturn, 22) := pm_of cl225_0 11 (q := (21, .ireturn, 22)) rfl
theorem k226 : pm_k 226 = 12 := by decide +kernel
theorem ml226 : pm_ml 226 = 1 := by decide +kernel
theorem rt226 : pm_rt 226 = (some .int) := by decide +kernel
theorem hh226 : pm_hh 226 = [] := by decide +kernel
theorem rc226 : pm_cl 12 = (pm_y 226).cls := by decide +kernel
theorem cl226_0 : ([(0, .aload_n 0, 1), (1, .getfield 120, 4), (4, .aload_n 0, 5), (5, .getfield 123, 8), (8, .if_icmp .ge 30, 11), (11, .aload_n 0, 12), (12, .getfield 20, 15), (15, .aload_n 0, 16), (16, .getfield 120, 19), (19, .iaload, 20), (20, .bipush 32, 22), (22, .if_icmp .ne 16, 25), (25, .aload_n 0, 26), (26, .dup, 27), (27, .getfield 120, 30), (30, .iconst 1, 31), (31, .iadd, 32), (32, .putfield 120, 35), (35, .goto (-35), 38), (38, .aload_n 0, 39), (39, .getfield 120, 42), (42, .aload_n 0, 43), (43, .getfield 123, 46), (46, .if_icmp .ge 15, 49), (49, .aload_n 0, 50), (50, .getfield 20, 53), (53, .aload_n 0, 54), (54, .getfield 120, 57), (57, .iaload, 58), (58, .goto 4, 61), (61, .iconst 0, 62), (62, .ireturn, 63)] : List (Nat × Instr × Nat)).all (fun q => decide (pm_code 226 q.1 = some q.2)) = true := by decide +kernel
theorem c226_0 : pm_code 226 0 = some (.aload_n 0, 1) := pm_of cl226_0 0 (q := (0, .aload_n 0, 1)) rfl
theorem c226_1 : pm_code 226 1 = some (.getfield 120, 4) := pm_of cl226_0 1 (q := (1, .getfield 120, 4)) rfl
theorem c226_4 : pm_code 226 4 = some (.aload_n 0, 5) := pm_of cl226_0 2 (q := (4, .aload_n 0, 5)) rfl
theorem c226_5 : pm_code 226 5 = some (.getfield 123, 8) := pm_of cl226_0 3 (q := (5, .getfield 123, 8)) rfl
theorem c226_8 : pm_code 226 8 = some (.if_icmp .ge 30, 11) := pm_of cl226_0 4 (q := (8, .if_icmp .ge 30, 11)) rfl
theorem c226_11 : pm_code 226 11 = some (.aload_n 0, 12) := pm_of cl226_0 5 (q := (11, .aload_n 0, 12)) rfl
theorem c226_12 : pm_code 226 12 = some (.getfield 20, 15) := pm_of cl226_0 6 (q := (12, .getfield 20, 15)) rfl
theorem c226_15 : pm_code 226 15 = some (.aload_n 0, 16) := pm_of cl226_0 7 (q := (15, .aload_n 0, 16)) rfl
theorem c226_16 : pm_code 226 16 = some (.getfield 120, 19) := pm_of cl226_0 8 (q := (16, .getfield 120, 19)) rfl
theorem c226_19 : pm_code 226 19 = some (.iaload, 20) := pm_of cl226_0 9 (q := (19, .iaload, 20)) rfl
theorem c226_20 : pm_code 226 20 = some (.bipush 32, 22) := pm_of cl226_0 10 (q := (20, .bipush 32, 22)) rfl
theorem c226_22 : pm_code 226 22 = some (.if_icmp .ne 16, 25) := pm_of cl226_0 11 (q := (22, .if_icmp .ne 16, 25)) rfl
theorem c226_25 : pm_code 226 25 = some (.aload_n 0, 26) := pm_of cl226_0 12 (q := (25, .aload_n 0, 26)) rfl
theorem c226_26 : pm_code 226 26 = some (.dup, 27) := pm_of cl226_0 13 (q := (26, .dup, 27)) rfl
theorem c226_27 : pm_code 226 27 = some (.getfield 120, 30) := pm_of cl226_0 14 (q := (27, .getfield 120, 30)) rfl
theorem c226_30 : pm_code 226 30 = some (.iconst 1, 31) := pm_of cl226_0 15 (q := (30, .iconst 1, 31)) rfl
theorem c226_31 : pm_code 226 31 = some (.iadd, 32) := pm_of cl226_0 16 (q := (31, .iadd, 32)) rfl
theorem c226_32 : pm_code 226 32 = some (.putfield 120, 35) := pm_of cl226_0 17 (q := (32, .putfield 120, 35)) rfl
theorem c226_35 : pm_code 226 35 = some (.goto (-35), 38) := pm_of cl226_0 18 (q := (35, .goto (-35), 38)) rfl
theorem c226_38 : pm_code 226 38 = some (.aload_n 0, 39) := pm_of cl226_0 19 (q := (38, .aload_n 0, 39)) rfl
theorem c226_39 : pm_code 226 39 = some (.getfield 120, 42) := pm_of cl226_0 20 (q := (39, .getfield 120, 42)) rfl
theorem c226_42 : pm_code 226 42 = some (.aload_n 0, 43) := pm_of cl226_0 21 (q := (42, .aload_n 0, 43)) rfl
theorem c226_43 : pm_code 226 43 = some (.getfield 123, 46) := pm_of cl226_0 22 (q := (43, .getfield 123, 46)) rfl
theorem c226_46 : pm_code 226 46 = some (.if_icmp .ge 15, 49) := pm_of cl226_0 23 (q := (46, .if_icmp .ge 15, 49)) rfl
theorem c226_49 : pm_code 226 49 = some (.aload_n 0, 50) := pm_of cl226_0 24 (q := (49, .aload_n 0, 50)) rfl
theorem c226_50 : pm_code 226 50 = some (.getfield 20, 53) := pm_of cl226_0 25 (q := (50, .getfield 20, 53)) rfl
theorem c226_53 : pm_code 226 53 = some (.aload_n 0, 54) := pm_of cl226_0 26 (q := (53, .aload_n 0, 54)) rfl
theorem c226_54 : pm_code 226 54 = some (.getfield 120, 57) := pm_of cl226_0 27 (q := (54, .getfield 120, 57)) rfl
theorem c226_57 : pm_code 226 57 = some (.iaload, 58) := pm_of cl226_0 28 (q := (57, .iaload, 58)) rfl
theorem c226_58 : pm_code 226 58 = some (.goto 4, 61) := pm_of cl226_0 29 (q := (58, .goto 4, 61)) rfl
theorem c226_61 : pm_code 226 61 = some (.iconst 0, 62) := pm_of cl226_0 30 (q := (61, .iconst 0, 62)) rfl
theorem c226_62 : pm_code 226 62 = some (.ireturn, 63) := pm_of cl226_0 31 (q := (62, .ireturn, 63)) rfl
theorem k227 : pm_k 227 = 12 := by decide +kernel
theorem ml227 : pm_ml 227 = 3 := by decide +kernel
theorem rt227 : pm_rt 227 = (some .boolean) := by decide +kernel
theorem hh227 : pm_hh 227 = [] := by decide +kernel
theorem rc227 : pm_cl 12 = (pm_y 227).cls := by decide +kernel
theorem cl227_0 : ([(0, .aload_n 0, 1), (1, .invokevirtual 126, 4), (4, .pop, 5), (5, .iconst 0, 6), (6, .istore_n 2, 7), (7, .iload_n 2, 8), (8, .aload_n 1, 9), (9, .invokevirtual 134, 12), (12, .if_icmp .ge 43, 15), (15, .aload_n 0, 16), (16, .getfield 120, 19), (19, .iload_n 2, 20), (20, .iadd, 21), (21, .aload_n 0, 22), (22, .getfield 123, 25), (25, .if_icmp .ge 22, 28), (28, .aload_n 0, 29), (29, .getfield 20, 32), (32, .aload_n 0, 33), (33, .getfield 120, 36), (36, .iload_n 2, 37), (37, .iadd, 38), (38, .iaload, 39), (39, .aload_n 1, 40), (40, .iload_n 2, 41), (41, .invokevirtual 139, 44), (44, .if_icmp .eq 5, 47), (47, .iconst 0, 48), (48, .ireturn, 49), (49, .iinc 2 1, 52), (52, .goto (-45), 55), (55, .aload_n 0, 56), (56, .getfield 120, 59), (59, .aload_n 1, 60), (60, .invokevirtual 134, 63), (63, .iadd, 64), (64, .aload_n 0, 65), (65, .getfield 123, 68), (68, .if_icmp .ge 23, 71), (71, .aload_n 0, 72)] : List (Nat × Instr × Nat)).all (fun q => decide (pm_code 227 q.1 = some q.2)) = true := by decide +kernel
theorem c227_0 : pm_code 227 0 = some (.aload_n 0, 1) := pm_of cl227_0 0 (q := (0, .aload_n 0, 1)) rfl
theorem c227_1 : pm_code 227 1 = some (.invokevirtual 126, 4) := pm_of cl227_0 1 (q := (1, .invokevirtual 126, 4)) rfl
theorem c227_4 : pm_code 227 4 = some (.pop, 5) := pm_of cl227_0 2 (q := (4, .pop, 5)) rfl
theorem c227_5 : pm_code 227 5 = some (.iconst 0, 6) := pm_of cl227_0 3 (q := (5, .iconst 0, 6)) rfl
theorem c227_6 : pm_code 227 6 = some (.istore_n 2, 7) := pm_of cl227_0 4 (q := (6, .istore_n 2, 7)) rfl
theorem c227_7 : pm_code 227 7 = some (.iload_n 2, 8) := pm_of cl227_0 5 (q := (7, .iload_n 2, 8)) rfl
theorem c227_8 : pm_code 227 8 = some (.aload_n 1, 9) := pm_of cl227_0 6 (q := (8, .aload_n 1, 9)) rfl
theorem c227_9 : pm_code 227 9 = some (.invokevirtual 134, 12) := pm_of cl227_0 7 (q := (9, .invokevirtual 134, 12)) rfl
theorem c227_12 : pm_code 227 12 = some (.if_icmp .ge 43, 15) := pm_of cl227_0 8 (q := (12, .if_icmp .ge 43, 15)) rfl
theorem c227_15 : pm_code 227 15 = some (.aload_n 0, 16) := pm_of cl227_0 9 (q := (15, .aload_n 0, 16)) rfl
theorem c227_16 : pm_code 227 16 = some (.getfield 120, 19) := pm_of cl227_0 10 (q := (16, .getfield 120, 19)) rfl
theorem c227_19 : pm_code 227 19 = some (.iload_n 2, 20) := pm_of cl227_0 11 (q := (19, .iload_n 2, 20)) rfl
theorem c227_20 : pm_code 227 20 = some (.iadd, 21) := pm_of cl227_0 12 (q := (20, .iadd, 21)) rfl
theorem c227_21 : pm_code 227 21 = some (.aload_n 0, 22) := pm_of cl227_0 13 (q := (21, .aload_n 0, 22)) rfl
theorem c227_22 : pm_code 227 22 = some (.getfield 123, 25) := pm_of cl227_0 14 (q := (22, .getfield 123, 25)) rfl
theorem c227_25 : pm_code 227 25 = some (.if_icmp .ge 22, 28) := pm_of cl227_0 15 (q := (25, .if_icmp .ge 22, 28)) rfl
theorem c227_28 : pm_code 227 28 = some (.aload_n 0, 29) := pm_of cl227_0 16 (q := (28, .aload_n 0, 29)) rfl
theorem c227_29 : pm_code 227 29 = some (.getfield 20, 32) := pm_of cl227_0 17 (q := (29, .getfield 20, 32)) rfl
theorem c227_32 : pm_code 227 32 = some (.aload_n 0, 33) := pm_of cl227_0 18 (q := (32, .aload_n 0, 33)) rfl
theorem c227_33 : pm_code 227 33 = some (.getfield 120, 36) := pm_of cl227_0 19 (q := (33, .getfield 120, 36)) rfl
theorem c227_36 : pm_code 227 36 = some (.iload_n 2, 37) := pm_of cl227_0 20 (q := (36, .iload_n 2, 37)) rfl
theorem c227_37 : pm_code 227 37 = some (.iadd, 38) := pm_of cl227_0 21 (q := (37, .iadd, 38)) rfl
theorem c227_38 : pm_code 227 38 = some (.iaload, 39) := pm_of cl227_0 22 (q := (38, .iaload, 39)) rfl
theorem c227_39 : pm_code 227 39 = some (.aload_n 1, 40) := pm_of cl227_0 23 (q := (39, .aload_n 1, 40)) rfl
theorem c227_40 : pm_code 227 40 = some (.iload_n 2, 41) := pm_of cl227_0 24 (q := (40, .iload_n 2, 41)) rfl
theorem c227_41 : pm_code 227 41 = some (.invokevirtual 139, 44) := pm_of cl227_0 25 (q := (41, .invokevirtual 139, 44)) rfl
theorem c227_44 : pm_code 227 44 = some (.if_icmp .eq 5, 47) := pm_of cl227_0 26 (q := (44, .if_icmp .eq 5, 47)) rfl
theorem c227_47 : pm_code 227 47 = some (.iconst 0, 48) := pm_of cl227_0 27 (q := (47, .iconst 0, 48)) rfl
theorem c227_48 : pm_code 227 48 = some (.ireturn, 49) := pm_of cl227_0 28 (q := (48, .ireturn, 49)) rfl
theorem c227_49 : pm_code 227 49 = some (.iinc 2 1, 52) := pm_of cl227_0 29 (q := (49, .iinc 2 1, 52)) rfl
theorem c227_52 : pm_code 227 52 = some (.goto (-45), 55) := pm_of cl227_0 30 (q := (52, .goto (-45), 55)) rfl
theorem c227_55 : pm_code 227 55 = some (.aload_n 0, 56) := pm_of cl227_0 31 (q := (55, .aload_n 0, 56)) rfl
theorem c227_56 : pm_code 227 56 = some (.getfield 120, 59) := pm_of cl227_0 32 (q := (56, .getfield 120, 59)) rfl
theorem c227_59 : pm_code 227 59 = some (.aload_n 1, 60) := pm_of cl227_0 33 (q := (59, .aload_n 1, 60)) rfl
theorem c227_60 : pm_code 227 60 = some (.invokevirtual 134, 63) := pm_of cl227_0 34 (q := (60, .invokevirtual 134, 63)) rfl
theorem c227_63 : pm_code 227 63 = some (.iadd, 64) := pm_of cl227_0 35 (q := (63, .iadd, 64)) rfl
theorem c227_64 : pm_code 227 64 = some (.aload_n 0, 65) := pm_of cl227_0 36 (q := (64, .aload_n 0, 65)) rfl
theorem c227_65 : pm_code 227 65 = some (.getfield 123, 68) := pm_of cl227_0 37 (q := (65, .getfield 123, 68)) rfl
theorem c227_68 : pm_code 227 68 = some (.if_icmp .ge 23, 71) := pm_of cl227_0 38 (q := (68, .if_icmp .ge 23, 71)) rfl
theorem c227_71 : pm_code 227 71 = some (.aload_n 0, 72) := pm_of cl227_0 39 (q := (71, .aload_n 0, 72)) rfl
theorem cl227_1 : ([(72, .getfield 20, 75), (75, .aload_n 0, 76), (76, .getfield 120, 79), (79, .aload_n 1, 80), (80, .invokevirtual 134, 83), (83, .iadd, 84), (84, .iaload, 85), (85, .invokestatic 130, 88), (88, .ifCond .ne 7, 91), (91, .iconst 1, 92), (92, .goto 4, 95), (95, .iconst 0, 96), (96, .ireturn, 97)] : List (Nat × Instr × Nat)).all (fun q => decide (pm_code 227 q.1 = some q.2)) = true := by decide +kernel
theorem c227_72 : pm_code 227 72 = some (.getfield 20, 75) := pm_of cl227_1 0 (q := (72, .getfield 20, 75)) rfl
theorem c227_75 : pm_code 227 75 = some (.aload_n 0, 76) := pm_of cl227_1 1 (q := (75, .aload_n 0, 76)) rfl
theorem c227_76 : pm_code 227 76 = some (.getfield 120, 79) := pm_of cl227_1 2 (q := (76, .getfield 120, 79)) rfl
theorem c227_79 : pm_code 227 79 = some (.aload_n 1, 80) := pm_of cl227_1 3 (q := (79, .aload_n 1, 80)) rfl
theorem c227_80 : pm_code 227 80 = some (.invokevirtual 134, 83) := pm_of cl227_1 4 (q := (80, .invokevirtual 134, 83)) rfl
theorem c227_83 : pm_code 227 83 = some (.iadd, 84) := pm_of cl227_1 5 (q := (83, .iadd, 84)) rfl
theorem c227_84 : pm_code 227 84 = some (.iaload, 85) := pm_of cl227_1 6 (q := (84, .iaload, 85)) rfl
theorem c227_85 : pm_code 227 85 = some (.invokestatic 130, 88) := pm_of cl227_1 7 (q := (85, .invokestatic 130, 88)) rfl
theorem c227_88 : pm_code 227 88 = some (.ifCond .ne 7, 91) := pm_of cl227_1 8 (q := (88, .ifCond .ne 7, 91)) rfl
theorem c227_91 : pm_code 227 91 = some (.iconst 1, 92) := pm_of cl227_1 9 (q := (91, .iconst 1, 92)) rfl
theorem c227_92 : pm_code 227 92 = some (.goto 4, 95) := pm_of cl227_1 10 (q := (92, .goto 4, 95)) rfl
theorem c227_95 : pm_code 227 95 = some (.iconst 0, 96) := pm_of cl227_1 11 (q := (95, .iconst 0, 96)) rfl
theorem c227_96 : pm_code 227 96 = some (.ireturn, 97) := pm_of cl227_1 12 (q := (96, .ireturn, 97)) rfl
theorem k228 : pm_k 228 = 12 := by decide +kernel
theorem ml228 : pm_ml 228 = 1 := by decide +kernel
theorem rt228 : pm_rt 228 = (some .boolean) := by decide +kernel
theorem hh228 : pm_hh 228 = [] := by decide +kernel
theorem rc228 : pm_cl 12 = (pm_y 228).cls := by decide +kernel
theorem cl228_0 : ([(0, .iload_n 0, 1), (1, .bipush 97, 3), (3, .if_icmp .lt 13, 6), (6, .iload_n 0, 7), (7, .bipush 122, 9), (9, .if_icmp .gt 7, 12), (12, .iconst 1, 13), (13, .goto 4, 16), (16, .iconst 0, 17), (17, .ireturn, 18)] : List (Nat × Instr × Nat)).all (fun q => decide (pm_code 228 q.1 = some q.2)) = true := by decide +kernel
theorem c228_0 : pm_code 228 0 = some (.iload_n 0, 1) := pm_of cl228_0 0 (q := (0, .iload_n 0, 1)) rfl
theorem c228_1 : pm_code 228 1 = some (.bipush 97, 3) := pm_of cl228_0 1 (q := (1, .bipush 97, 3)) rfl
theorem c228_3 : pm_code 228 3 = some (.if_icmp .lt 13, 6) := pm_of cl228_0 2 (q := (3, .if_icmp .lt 13, 6)) rfl
theorem c228_6 : pm_code 228 6 = some (.iload_n 0, 7) := pm_of cl228_0 3 (q := (6, .iload_n 0, 7)) rfl
theorem c228_7 : pm_code 228 7 = some (.bipush 122, 9) := pm_of cl228_0 4 (q := (7, .bipush 122, 9)) rfl
theorem c228_9 : pm_code 228 9 = some (.if_icmp .gt 7, 12) := pm_of cl228_0 5 (q := (9, .if_icmp .gt 7, 12)) rfl
theorem c228_12 : pm_code 228 12 = some (.iconst 1, 13) := pm_of cl228_0 6 (q := (12, .iconst 1, 13)) rfl
theorem c228_13 : pm_code 228 13 = some (.goto 4, 16) := pm_of cl228_0 7 (q := (13, .goto 4, 16)) rfl
theorem c228_16 : pm_code 228 16 = some (.iconst 0, 17) := pm_of cl228_0 8 (q := (16, .iconst 0, 17)) rfl
theorem c228_17 : pm_code 228 17 = some (.ireturn, 18) := pm_of cl228_0 9 (q := (17, .ireturn, 18)) rfl
theorem k229 : pm_k 229 = 12 := by decide +kernel
theorem ml229 : pm_ml 229 = 4 := by decide +kernel
theorem rt229 : pm_rt 229 = (some .int) := by decide +kernel
theorem hh229 : pm_hh 229 = [] := by decide +kernel
theorem rc229 : pm_cl 12 = (pm_y 229).cls := by decide +kernel
theorem cl229_0 : ([(0, .aload_n 0, 1), (1, .invokevirtual 126, 4), (4, .pop, 5), (5, .iconst 0, 6), (6, .istore_n 1, 7), (7, .iconst 0, 8), (8, .istore_n 2, 9), (9, .aload_n 0, 10), (10, .getfield 120, 13), (13, .istore_n 3, 14), (14, .iload_n 3, 15), (15, .aload_n 0, 16), (16, .getfield 123, 19), (19, .if_icmp .ge 48, 22), (22, .aload_n 0, 23), (23, .getfield 20, 26), (26, .iload_n 3, 27), (27, .iaload, 28), (28, .invokestatic 130, 31), (31, .ifCond .eq 36, 34), (34, .iload_n 2, 35), (35, .bipush 6, 37), (37, .if_icmp .ge 19, 40), (40, .iload_n 1, 41), (41, .iconst 5, 42), (42, .ishl, 43), (43, .aload_n 0, 44), (44, .getfield 20, 47), (47, .iload_n 3, 48), (48, .iaload, 49), (49, .bipush 96, 51), (51, .isub, 52), (52, .ior, 53), (53, .goto 4, 56), (56, .iconst 0, 57), (57, .istore_n 1, 58), (58, .iinc 2 1, 61), (61, .iinc 3 1, 64), (64, .goto (-50), 67), (67, .iload_n 2, 68)] : List (Nat × Instr × Nat)).all (fun q => decide (pm_code 229 q.1 = some q.2)) = true := by decide +kernel
theorem c229_0 : pm_code 229 0 = some (.aload_n 0, 1) := pm_of cl229_0 0 (q := (0, .aload_n 0, 1)) rfl
theorem c229_1 : pm_code 229 1 = some (.invokevirtual 126, 4) := pm_of cl229_0 1 (q := (1, .invokevirtual 126, 4)) rfl
theorem c229_4 : pm_code 229 4 = some (.pop, 5) := pm_of cl229_0 2 (q := (4, .pop, 5)) rfl
theorem c229_5 : pm_code 229 5 = some (.iconst 0, 6) := pm_of cl229_0 3 (q := (5, .iconst 0, 6)) rfl
theorem c229_6 : pm_code 229 6 = some (.istore_n 1, 7) := pm_of cl229_0 4 (q := (6, .istore_n 1, 7)) rfl
theorem c229_7 : pm_code 229 7 = some (.iconst 0, 8) := pm_of cl229_0 5 (q := (7, .iconst 0, 8)) rfl
theorem c229_8 : pm_code 229 8 = some (.istore_n 2, 9) := pm_of cl229_0 6 (q := (8, .istore_n 2, 9)) rfl
theorem c229_9 : pm_code 229 9 = some (.aload_n 0, 10) := pm_of cl229_0 7 (q := (9, .aload_n 0, 10)) rfl
theorem c229_10 : pm_code 229 10 = some (.getfield 120, 13) := pm_of cl229_0 8 (q := (10, .getfield 120, 13)) rfl
theorem c229_13 : pm_code 229 13 = some (.istore_n 3, 14) := pm_of cl229_0 9 (q := (13, .istore_n 3, 14)) rfl
theorem c229_14 : pm_code 229 14 = some (.iload_n 3, 15) := pm_of cl229_0 10 (q := (14, .iload_n 3, 15)) rfl
theorem c229_15 : pm_code 229 15 = some (.aload_n 0, 16) := pm_of cl229_0 11 (q := (15, .aload_n 0, 16)) rfl
theorem c229_16 : pm_code 229 16 = some (.getfield 123, 19) := pm_of cl229_0 12 (q := (16, .getfield 123, 19)) rfl
theorem c229_19 : pm_code 229 19 = some (.if_icmp .ge 48, 22) := pm_of cl229_0 13 (q := (19, .if_icmp .ge 48, 22)) rfl
theorem c229_22 : pm_code 229 22 = some (.aload_n 0, 23) := pm_of cl229_0 14 (q := (22, .aload_n 0, 23)) rfl
theorem c229_23 : pm_code 229 23 = some (.getfield 20, 26) := pm_of cl229_0 15 (q := (23, .getfield 20, 26)) rfl
theorem c229_26 : pm_code 229 26 = some (.iload_n 3, 27) := pm_of cl229_0 16 (q := (26, .iload_n 3, 27)) rfl
theorem c229_27 : pm_code 229 27 = some (.iaload, 28) := pm_of cl229_0 17 (q := (27, .iaload, 28)) rfl
theorem c229_28 : pm_code 229 28 = some (.invokestatic 130, 31) := pm_of cl229_0 18 (q := (28, .invokestatic 130, 31)) rfl
theorem c229_31 : pm_code 229 31 = some (.ifCond .eq 36, 34) := pm_of cl229_0 19 (q := (31, .ifCond .eq 36, 34)) rfl
theorem c229_34 : pm_code 229 34 = some (.iload_n 2, 35) := pm_of cl229_0 20 (q := (34, .iload_n 2, 35)) rfl
theorem c229_35 : pm_code 229 35 = some (.bipush 6, 37) := pm_of cl229_0 21 (q := (35, .bipush 6, 37)) rfl
theorem c229_37 : pm_code 229 37 = some (.if_icmp .ge 19, 40) := pm_of cl229_0 22 (q := (37, .if_icmp .ge 19, 40)) rfl
theorem c229_40 : pm_code 229 40 = some (.iload_n 1, 41) := pm_of cl229_0 23 (q := (40, .iload_n 1, 41)) rfl
theorem c229_41 : pm_code 229 41 = some (.iconst 5, 42) := pm_of cl229_0 24 (q := (41, .iconst 5, 42)) rfl
theorem c229_42 : pm_code 229 42 = some (.ishl, 43) := pm_of cl229_0 25 (q := (42, .ishl, 43)) rfl
theorem c229_43 : pm_code 229 43 = some (.aload_n 0, 44) := pm_of cl229_0 26 (q := (43, .aload_n 0, 44)) rfl
theorem c229_44 : pm_code 229 44 = some (.getfield 20, 47) := pm_of cl229_0 27 (q := (44, .getfield 20, 47)) rfl
theorem c229_47 : pm_code 229 47 = some (.iload_n 3, 48) := pm_of cl229_0 28 (q := (47, .iload_n 3, 48)) rfl
theorem c229_48 : pm_code 229 48 = some (.iaload, 49) := pm_of cl229_0 29 (q := (48, .iaload, 49)) rfl
theorem c229_49 : pm_code 229 49 = some (.bipush 96, 51) := pm_of cl229_0 30 (q := (49, .bipush 96, 51)) rfl
theorem c229_51 : pm_code 229 51 = some (.isub, 52) := pm_of cl229_0 31 (q := (51, .isub, 52)) rfl
theorem c229_52 : pm_code 229 52 = some (.ior, 53) := pm_of cl229_0 32 (q := (52, .ior, 53)) rfl
theorem c229_53 : pm_code 229 53 = some (.goto 4, 56) := pm_of cl229_0 33 (q := (53, .goto 4, 56)) rfl
theorem c229_56 : pm_code 229 56 = some (.iconst 0, 57) := pm_of cl229_0 34 (q := (56, .iconst 0, 57)) rfl
theorem c229_57 : pm_code 229 57 = some (.istore_n 1, 58) := pm_of cl229_0 35 (q := (57, .istore_n 1, 58)) rfl
theorem c229_58 : pm_code 229 58 = some (.iinc 2 1, 61) := pm_of cl229_0 36 (q := (58, .iinc 2 1, 61)) rfl
theorem c229_61 : pm_code 229 61 = some (.iinc 3 1, 64) := pm_of cl229_0 37 (q := (61, .iinc 3 1, 64)) rfl
theorem c229_64 : pm_code 229 64 = some (.goto (-50), 67) := pm_of cl229_0 38 (q := (64, .goto (-50), 67)) rfl
theorem c229_67 : pm_code 229 67 = some (.iload_n 2, 68) := pm_of cl229_0 39 (q := (67, .iload_n 2, 68)) rfl
theorem cl229_1 : ([(68, .bipush 6, 70), (70, .if_icmp .le 7, 73), (73, .iconst 0, 74), (74, .goto 4, 77), (77, .iload_n 1, 78), (78, .ireturn, 79)] : List (Nat × Instr × Nat)).all (fun q => decide (pm_code 229 q.1 = some q.2)) = true := by decide +kernel
theorem c229_68 : pm_code 229 68 = some (.bipush 6, 70) := pm_of cl229_1 0 (q := (68, .bipush 6, 70)) rfl
theorem c229_70 : pm_code 229 70 = some (.if_icmp .le 7, 73) := pm_of cl229_1 1 (q := (70, .if_icmp .le 7, 73)) rfl
theorem c229_73 : pm_code 229 73 = some (.iconst 0, 74) := pm_of cl229_1 2 (q := (73, .iconst 0, 74)) rfl
theorem c229_74 : pm_code 229 74 = some (.goto 4, 77) := pm_of cl229_1 3 (q := (74, .goto 4, 77)) rfl
theorem c229_77 : pm_code 229 77 = some (.iload_n 1, 78) := pm_of cl229_1 4 (q := (77, .iload_n 1, 78)) rfl
theorem c229_78 : pm_code 229 78 = some (.ireturn, 79) := pm_of cl229_1 5 (q := (78, .ireturn, 79)) rfl
