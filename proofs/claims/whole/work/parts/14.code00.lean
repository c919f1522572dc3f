/-! WHAT STANDS AT EVERY PLACE OF EVERY METHOD -/
/-- a field's read or write at a place: class, field, kind -/
def pm_gF (m pc n ci f kd : Nat) : Prop := ∃ i : Nat, pm_code m pc = some (.getfield i, n) ∧ pm_fd (pm_k m) i = some (ci, f, kd)
def pm_pF (m pc n ci f kd : Nat) : Prop := ∃ i : Nat, pm_code m pc = some (.putfield i, n) ∧ pm_fd (pm_k m) i = some (ci, f, kd) ∧ ci < 13 ∧ pm_fin ci f = false
/-- a call at a place: the method, how, with how many values -/
def pm_cF (m pc n m' kd j : Nat) : Prop := ∃ (ins : Instr) (i na : Nat) (nest : Bool), pm_code m pc = some (ins, n) ∧ pm_iv3 ins = some (i, kd) ∧ pm_tg (pm_k m) i = some (m', na, kd, nest) ∧ j = na + (if kd = 0 then 0 else 1)
/-- a constant of the table at a place -/
def pm_kF (m pc n : Nat) (v : Value) : Prop := ∃ (ins : Instr) (i : Nat), pm_code m pc = some (ins, n) ∧ (ins = .ldc i ∨ ins = .ldc_w i) ∧ pm_ct (pm_k m) i = some v
def pm_kF2 (m pc n : Nat) (v : Value) : Prop := ∃ i : Nat, pm_code m pc = some (.ldc2_w i, n) ∧ pm_ct (pm_k m) i = some v
theorem k0 : pm_k 0 = 0 := by decide +kernel
theorem ml0 : pm_ml 0 = 1 := by decide +kernel
theorem rt0 : pm_rt 0 = none := by decide +kernel
theorem hh0 : pm_hh 0 = [] := by decide +kernel
theorem rc0 : pm_cl 0 = (pm_y 0).cls := by decide +kernel
theorem cl0_0 : ([(0, .aload_n 0, 1), (1, .invokespecial 3, 4), (4, .aload_n 0, 5), (5, .bipush 16, 7), (7, .bipush 66, 9), (9, .multianewarray 11 2, 13), (13, .putfield 13, 16), (16, .aload_n 0, 17), (17, .bipush 51, 19), (19, .bipush 66, 21), (21, .multianewarray 11 2, 25), (25, .putfield 18, 28), (28, .aload_n 0, 29), (29, .iconst 3, 30), (30, .newarray .int, 32), (32, .putfield 21, 35), (35, .aload_n 0, 36), (36, .iconst 0, 37), (37, .putfield 25, 40), (40, .aload_n 0, 41), (41, .iconst 0, 42), (42, .putfield 29, 45), (45, .return_, 46)] : List (Nat × Instr × Nat)).all (fun q => decide (pm_code 0 q.1 = some q.2)) = true := by decide +kernel
theorem c0_0 : pm_code 0 0 = some (.aload_n 0, 1) := pm_of cl0_0 0 (q := (0, .aload_n 0, 1)) rfl
theorem c0_1 : pm_code 0 1 = some (.invokespecial 3, 4) := pm_of cl0_0 1 (q := (1, .invokespecial 3, 4)) rfl
theorem c0_4 : pm_code 0 4 = some (.aload_n 0, 5) := pm_of cl0_0 2 (q := (4, .aload_n 0, 5)) rfl
theorem c0_5 : pm_code 0 5 = some (.bipush 16, 7) := pm_of cl0_0 3 (q := (5, .bipush 16, 7)) rfl
theorem c0_7 : pm_code 0 7 = some (.bipush 66, 9) := pm_of cl0_0 4 (q := (7, .bipush 66, 9)) rfl
theorem c0_9 : pm_code 0 9 = some (.multianewarray 11 2, 13) := pm_of cl0_0 5 (q := (9, .multianewarray 11 2, 13)) rfl
theorem c0_13 : pm_code 0 13 = some (.putfield 13, 16) := pm_of cl0_0 6 (q := (13, .putfield 13, 16)) rfl
theorem c0_16 : pm_code 0 16 = some (.aload_n 0, 17) := pm_of cl0_0 7 (q := (16, .aload_n 0, 17)) rfl
theorem c0_17 : pm_code 0 17 = some (.bipush 51, 19) := pm_of cl0_0 8 (q := (17, .bipush 51, 19)) rfl
theorem c0_19 : pm_code 0 19 = some (.bipush 66, 21) := pm_of cl0_0 9 (q := (19, .bipush 66, 21)) rfl
theorem c0_21 : pm_code 0 21 = some (.multianewarray 11 2, 25) := pm_of cl0_0 10 (q := (21, .multianewarray 11 2, 25)) rfl
theorem c0_25 : pm_code 0 25 = some (.putfield 18, 28) := pm_of cl0_0 11 (q := (25, .putfield 18, 28)) rfl
theorem c0_28 : pm_code 0 28 = some (.aload_n 0, 29) := pm_of cl0_0 12 (q := (28, .aload_n 0, 29)) rfl
theorem c0_29 : pm_code 0 29 = some (.iconst 3, 30) := pm_of cl0_0 13 (q := (29, .iconst 3, 30)) rfl
theorem c0_30 : pm_code 0 30 = some (.newarray .int, 32) := pm_of cl0_0 14 (q := (30, .newarray .int, 32)) rfl
theorem c0_32 : pm_code 0 32 = some (.putfield 21, 35) := pm_of cl0_0 15 (q := (32, .putfield 21, 35)) rfl
theorem c0_35 : pm_code 0 35 = some (.aload_n 0, 36) := pm_of cl0_0 16 (q := (35, .aload_n 0, 36)) rfl
theorem c0_36 : pm_code 0 36 = some (.iconst 0, 37) := pm_of cl0_0 17 (q := (36, .iconst 0, 37)) rfl
theorem c0_37 : pm_code 0 37 = some (.putfield 25, 40) := pm_of cl0_0 18 (q := (37, .putfield 25, 40)) rfl
theorem c0_40 : pm_code 0 40 = some (.aload_n 0, 41) := pm_of cl0_0 19 (q := (40, .aload_n 0, 41)) rfl
theorem c0_41 : pm_code 0 41 = some (.iconst 0, 42) := pm_of cl0_0 20 (q := (41, .iconst 0, 42)) rfl
theorem c0_42 : pm_code 0 42 = some (.putfield 29, 45) := pm_of cl0_0 21 (q := (42, .putfield 29, 45)) rfl
theorem c0_45 : pm_code 0 45 = some (.return_, 46) := pm_of cl0_0 22 (q := (45, .return_, 46)) rfl
theorem k1 : pm_k 1 = 0 := by decide +kernel
theorem ml1 : pm_ml 1 = 1 := by decide +kernel
theorem rt1 : pm_rt 1 = (some .int) := by decide +kernel
theorem hh1 : pm_hh 1 = [] := by decide +kernel
theorem rc1 : pm_cl 0 = (pm_y 1).cls := by decide +kernel
theorem cl1_0 : ([(0, .aload_n 0, 1), (1, .getfield 25, 4), (4, .ireturn, 5)] : List (Nat × Instr × Nat)).all (fun q => decide (pm_code 1 q.1 = some q.2)) = true := by decide +kernel
theorem c1_0 : pm_code 1 0 = some (.aload_n 0, 1) := pm_of cl1_0 0 (q := (0, .aload_n 0, 1)) rfl
theorem c1_1 : pm_code 1 1 = some (.getfield 25, 4) := pm_of cl1_0 1 (q := (1, .getfield 25, 4)) rfl
theorem c1_4 : pm_code 1 4 = some (.ireturn, 5) := pm_of cl1_0 2 (q := (4, .ireturn, 5)) rfl
theorem k2 : pm_k 2 = 0 := by decide +kernel
theorem ml2 : pm_ml 2 = 2 := by decide +kernel
theorem rt2 : pm_rt 2 = none := by decide +kernel
theorem hh2 : pm_hh 2 = [] := by decide +kernel
theorem rc2 : pm_cl 0 = (pm_y 2).cls := by decide +kernel
theorem cl2_0 : ([(0, .aload_n 0, 1), (1, .getfield 25, 4), (4, .ifCond .le 38, 7), (7, .aload_n 0, 8), (8, .getfield 25, 11), (11, .aload_n 0, 12), (12, .getfield 13, 15), (15, .arraylength, 16), (16, .if_icmp .gt 26, 19), (19, .aload_n 0, 20), (20, .dup, 21), (21, .getfield 25, 24), (24, .iconst 1, 25), (25, .isub, 26), (26, .putfield 25, 29), (29, .aload_n 1, 30), (30, .aload_n 0, 31), (31, .getfield 13, 34), (34, .aload_n 0, 35), (35, .getfield 25, 38), (38, .aaload, 39), (39, .invokevirtual 36, 42), (42, .return_, 43)] : List (Nat × Instr × Nat)).all (fun q => decide (pm_code 2 q.1 = some q.2)) = true := by decide +kernel
theorem c2_0 : pm_code 2 0 = some (.aload_n 0, 1) := pm_of cl2_0 0 (q := (0, .aload_n 0, 1)) rfl
theorem c2_1 : pm_code 2 1 = some (.getfield 25, 4) := pm_of cl2_0 1 (q := (1, .getfield 25, 4)) rfl
theorem c2_4 : pm_code 2 4 = some (.ifCond .le 38, 7) := pm_of cl2_0 2 (q := (4, .ifCond .le 38, 7)) rfl
theorem c2_7 : pm_code 2 7 = some (.aload_n 0, 8) := pm_of cl2_0 3 (q := (7, .aload_n 0, 8)) rfl
theorem c2_8 : pm_code 2 8 = some (.getfield 25, 11) := pm_of cl2_0 4 (q := (8, .getfield 25, 11)) rfl
theorem c2_11 : pm_code 2 11 = some (.aload_n 0, 12) := pm_of cl2_0 5 (q := (11, .aload_n 0, 12)) rfl
theorem c2_12 : pm_code 2 12 = some (.getfield 13, 15) := pm_of cl2_0 6 (q := (12, .getfield 13, 15)) rfl
theorem c2_15 : pm_code 2 15 = some (.arraylength, 16) := pm_of cl2_0 7 (q := (15, .arraylength, 16)) rfl
theorem c2_16 : pm_code 2 16 = some (.if_icmp .gt 26, 19) := pm_of cl2_0 8 (q := (16, .if_icmp .gt 26, 19)) rfl
theorem c2_19 : pm_code 2 19 = some (.aload_n 0, 20) := pm_of cl2_0 9 (q := (19, .aload_n 0, 20)) rfl
theorem c2_20 : pm_code 2 20 = some (.dup, 21) := pm_of cl2_0 10 (q := (20, .dup, 21)) rfl
theorem c2_21 : pm_code 2 21 = some (.getfield 25, 24) := pm_of cl2_0 11 (q := (21, .getfield 25, 24)) rfl
theorem c2_24 : pm_code 2 24 = some (.iconst 1, 25) := pm_of cl2_0 12 (q := (24, .iconst 1, 25)) rfl
theorem c2_25 : pm_code 2 25 = some (.isub, 26) := pm_of cl2_0 13 (q := (25, .isub, 26)) rfl
theorem c2_26 : pm_code 2 26 = some (.putfield 25, 29) := pm_of cl2_0 14 (q := (26, .putfield 25, 29)) rfl
theorem c2_29 : pm_code 2 29 = some (.aload_n 1, 30) := pm_of cl2_0 15 (q := (29, .aload_n 1, 30)) rfl
theorem c2_30 : pm_code 2 30 = some (.aload_n 0, 31) := pm_of cl2_0 16 (q := (30, .aload_n 0, 31)) rfl
theorem c2_31 : pm_code 2 31 = some (.getfield 13, 34) := pm_of cl2_0 17 (q := (31, .getfield 13, 34)) rfl
theorem c2_34 : pm_code 2 34 = some (.aload_n 0, 35) := pm_of cl2_0 18 (q := (34, .aload_n 0, 35)) rfl
theorem c2_35 : pm_code 2 35 = some (.getfield 25, 38) := pm_of cl2_0 19 (q := (35, .getfield 25, 38)) rfl
theorem c2_38 : pm_code 2 38 = some (.aaload, 39) := pm_of cl2_0 20 (q := (38, .aaload, 39)) rfl
theorem c2_39 : pm_code 2 39 = some (.invokevirtual 36, 42) := pm_of cl2_0 21 (q := (39, .invokevirtual 36, 42)) rfl
theorem c2_42 : pm_code 2 42 = some (.return_, 43) := pm_of cl2_0 22 (q := (42, .return_, 43)) rfl
theorem k3 : pm_k 3 = 0 := by decide +kernel
theorem ml3 : pm_ml 3 = 1 := by decide +kernel
theorem rt3 : pm_rt 3 = (some .int) := by decide +kernel
theorem hh3 : pm_hh 3 = [] := by decide +kernel
theorem rc3 : pm_cl 0 = (pm_y 3).cls := by decide +kernel
theorem cl3_0 : ([(0, .aload_n 0, 1), (1, .getfield 29, 4), (4, .ireturn, 5)] : List (Nat × Instr × Nat)).all (fun q => decide (pm_code 3 q.1 = some q.2)) = true := by decide +kernel
theorem c3_0 : pm_code 3 0 = some (.aload_n 0, 1) := pm_of cl3_0 0 (q := (0, .aload_n 0, 1)) rfl
theorem c3_1 : pm_code 3 1 = some (.getfield 29, 4) := pm_of cl3_0 1 (q := (1, .getfield 29, 4)) rfl
theorem c3_4 : pm_code 3 4 = some (.ireturn, 5) := pm_of cl3_0 2 (q := (4, .ireturn, 5)) rfl
theorem k4 : pm_k 4 = 0 := by decide +kernel
theorem ml4 : pm_ml 4 = 4 := by decide +kernel
theorem rt4 : pm_rt 4 = none := by decide +kernel
theorem hh4 : pm_hh 4 = [] := by decide +kernel
theorem rc4 : pm_cl 0 = (pm_y 4).cls := by decide +kernel
theorem cl4_0 : ([(0, .aload_n 0, 1), (1, .getfield 29, 4), (4, .bipush 17, 6), (6, .imul, 7), (7, .bipush 16, 9), (9, .iadd, 10), (10, .istore_n 2, 11), (11, .iload_n 2, 12), (12, .bipush 16, 14), (14, .if_icmp .lt 12, 17), (17, .iload_n 2, 18), (18, .aload_n 0, 19), (19, .getfield 18, 22), (22, .arraylength, 23), (23, .if_icmp .lt 4, 26), (26, .return_, 27), (27, .aload_n 1, 28), (28, .aload_n 0, 29), (29, .getfield 18, 32), (32, .iload_n 2, 33), (33, .aaload, 34), (34, .invokevirtual 32, 37), (37, .iconst 0, 38), (38, .istore_n 3, 39), (39, .iload_n 3, 40), (40, .aload_n 0, 41), (41, .getfield 25, 44), (44, .if_icmp .ge 38, 47), (47, .iload_n 3, 48), (48, .aload_n 0, 49), (49, .getfield 13, 52), (52, .arraylength, 53), (53, .if_icmp .ge 29, 56), (56, .aload_n 0, 57), (57, .getfield 13, 60), (60, .iload_n 3, 61), (61, .aaload, 62), (62, .aload_n 0, 63), (63, .getfield 18, 66), (66, .iload_n 2, 67)] : List (Nat × Instr × Nat)).all (fun q => decide (pm_code 4 q.1 = some q.2)) = true := by decide +kernel
theorem c4_0 : pm_code 4 0 = some (.aload_n 0, 1) := pm_of cl4_0 0 (q := (0, .aload_n 0, 1)) rfl
theorem c4_1 : pm_code 4 1 = some (.getfield 29, 4) := pm_of cl4_0 1 (q := (1, .getfield 29, 4)) rfl
theorem c4_4 : pm_code 4 4 = some (.bipush 17, 6) := pm_of cl4_0 2 (q := (4, .bipush 17, 6)) rfl
theorem c4_6 : pm_code 4 6 = some (.imul, 7) := pm_of cl4_0 3 (q := (6, .imul, 7)) rfl
theorem c4_7 : pm_code 4 7 = some (.bipush 16, 9) := pm_of cl4_0 4 (q := (7, .bipush 16, 9)) rfl
theorem c4_9 : pm_code 4 9 = some (.iadd, 10) := pm_of cl4_0 5 (q := (9, .iadd, 10)) rfl
theorem c4_10 : pm_code 4 10 = some (.istore_n 2, 11) := pm_of cl4_0 6 (q := (10, .istore_n 2, 11)) rfl
theorem c4_11 : pm_code 4 11 = some (.iload_n 2, 12) := pm_of cl4_0 7 (q := (11, .iload_n 2, 12)) rfl
theorem c4_12 : pm_code 4 12 = some (.bipush 16, 14) := pm_of cl4_0 8 (q := (12, .bipush 16, 14)) rfl
theorem c4_14 : pm_code 4 14 = some (.if_icmp .lt 12, 17) := pm_of cl4_0 9 (q := (14, .if_icmp .lt 12, 17)) rfl
theorem c4_17 : pm_code 4 17 = some (.iload_n 2, 18) := pm_of cl4_0 10 (q := (17, .iload_n 2, 18)) rfl
theorem c4_18 : pm_code 4 18 = some (.aload_n 0, 19) := pm_of cl4_0 11 (q := (18, .aload_n 0, 19)) rfl
theorem c4_19 : pm_code 4 19 = some (.getfield 18, 22) := pm_of cl4_0 12 (q := (19, .getfield 18, 22)) rfl
theorem c4_22 : pm_code 4 22 = some (.arraylength, 23) := pm_of cl4_0 13 (q := (22, .arraylength, 23)) rfl
theorem c4_23 : pm_code 4 23 = some (.if_icmp .lt 4, 26) := pm_of cl4_0 14 (q := (23, .if_icmp .lt 4, 26)) rfl
theorem c4_26 : pm_code 4 26 = some (.return_, 27) := pm_of cl4_0 15 (q := (26, .return_, 27)) rfl
theorem c4_27 : pm_code 4 27 = some (.aload_n 1, 28) := pm_of cl4_0 16 (q := (27, .aload_n 1, 28)) rfl
theorem c4_28 : pm_code 4 28 = some (.aload_n 0, 29) := pm_of cl4_0 17 (q := (28, .aload_n 0, 29)) rfl
theorem c4_29 : pm_code 4 29 = some (.getfield 18, 32) := pm_of cl4_0 18 (q := (29, .getfield 18, 32)) rfl
theorem c4_32 : pm_code 4 32 = some (.iload_n 2, 33) := pm_of cl4_0 19 (q := (32, .iload_n 2, 33)) rfl
theorem c4_33 : pm_code 4 33 = some (.aaload, 34) := pm_of cl4_0 20 (q := (33, .aaload, 34)) rfl
theorem c4_34 : pm_code 4 34 = some (.invokevirtual 32, 37) := pm_of cl4_0 21 (q := (34, .invokevirtual 32, 37)) rfl
theorem c4_37 : pm_code 4 37 = some (.iconst 0, 38) := pm_of cl4_0 22 (q := (37, .iconst 0, 38)) rfl
theorem c4_38 : pm_code 4 38 = some (.istore_n 3, 39) := pm_of cl4_0 23 (q := (38, .istore_n 3, 39)) rfl
theorem c4_39 : pm_code 4 39 = some (.iload_n 3, 40) := pm_of cl4_0 24 (q := (39, .iload_n 3, 40)) rfl
theorem c4_40 : pm_code 4 40 = some (.aload_n 0, 41) := pm_of cl4_0 25 (q := (40, .aload_n 0, 41)) rfl
theorem c4_41 : pm_code 4 41 = some (.getfield 25, 44) := pm_of cl4_0 26 (q := (41, .getfield 25, 44)) rfl
theorem c4_44 : pm_code 4 44 = some (.if_icmp .ge 38, 47) := pm_of cl4_0 27 (q := (44, .if_icmp .ge 38, 47)) rfl
theorem c4_47 : pm_code 4 47 = some (.iload_n 3, 48) := pm_of cl4_0 28 (q := (47, .iload_n 3, 48)) rfl
theorem c4_48 : pm_code 4 48 = some (.aload_n 0, 49) := pm_of cl4_0 29 (q := (48, .aload_n 0, 49)) rfl
theorem c4_49 : pm_code 4 49 = some (.getfield 13, 52) := pm_of cl4_0 30 (q := (49, .getfield 13, 52)) rfl
theorem c4_52 : pm_code 4 52 = some (.arraylength, 53) := pm_of cl4_0 31 (q := (52, .arraylength, 53)) rfl
theorem c4_53 : pm_code 4 53 = some (.if_icmp .ge 29, 56) := pm_of cl4_0 32 (q := (53, .if_icmp .ge 29, 56)) rfl
theorem c4_56 : pm_code 4 56 = some (.aload_n 0, 57) := pm_of cl4_0 33 (q := (56, .aload_n 0, 57)) rfl
theorem c4_57 : pm_code 4 57 = some (.getfield 13, 60) := pm_of cl4_0 34 (q := (57, .getfield 13, 60)) rfl
theorem c4_60 : pm_code 4 60 = some (.iload_n 3, 61) := pm_of cl4_0 35 (q := (60, .iload_n 3, 61)) rfl
theorem c4_61 : pm_code 4 61 = some (.aaload, 62) := pm_of cl4_0 36 (q := (61, .aaload, 62)) rfl
theorem c4_62 : pm_code 4 62 = some (.aload_n 0, 63) := pm_of cl4_0 37 (q := (62, .aload_n 0, 63)) rfl
theorem c4_63 : pm_code 4 63 = some (.getfield 18, 66) := pm_of cl4_0 38 (q := (63, .getfield 18, 66)) rfl
theorem c4_66 : pm_code 4 66 = some (.iload_n 2, 67) := pm_of cl4_0 39 (q := (66, .iload_n 2, 67)) rfl
theorem cl4_1 : ([(67, .bipush 16, 69), (69, .isub, 70), (70, .iload_n 3, 71), (71, .iadd, 72), (72, .aaload, 73), (73, .invokestatic 39, 76), (76, .iinc 3 1, 79), (79, .goto (-40), 82), (82, .aload_n 0, 83), (83, .getfield 21, 86), (86, .aload_n 0, 87), (87, .getfield 29, 90), (90, .aload_n 0, 91), (91, .getfield 25, 94), (94, .invokestatic 43, 97), (97, .aload_n 0, 98), (98, .dup, 99), (99, .getfield 29, 102), (102, .iconst 1, 103), (103, .iadd, 104), (104, .putfield 29, 107), (107, .return_, 108)] : List (Nat × Instr × Nat)).all (fun q => decide (pm_code 4 q.1 = some q.2)) = true := by decide +kernel
theorem c4_67 : pm_code 4 67 = some (.bipush 16, 69) := pm_of cl4_1 0 (q := (67, .bipush 16, 69)) rfl
theorem c4_69 : pm_code 4 69 = some (.isub, 70) := pm_of cl4_1 1 (q := (69, .isub, 70)) rfl
theorem c4_70 : pm_code 4 70 = some (.iload_n 3, 71) := pm_of cl4_1 2 (q := (70, .iload_n 3, 71)) rfl
theorem c4_71 : pm_code 4 71 = some (.iadd, 72) := pm_of cl4_1 3 (q := (71, .iadd, 72)) rfl
theorem c4_72 : pm_code 4 72 = some (.aaload, 73) := pm_of cl4_1 4 (q := (72, .aaload, 73)) rfl
theorem c4_73 : pm_code 4 73 = some (.invokestatic 39, 76) := pm_of cl4_1 5 (q := (73, .invokestatic 39, 76)) rfl
theorem c4_76 : pm_code 4 76 = some (.iinc 3 1, 79) := pm_of cl4_1 6 (q := (76, .iinc 3 1, 79)) rfl
theorem c4_79 : pm_code 4 79 = some (.goto (-40), 82) := pm_of cl4_1 7 (q := (79, .goto (-40), 82)) rfl
theorem c4_82 : pm_code 4 82 = some (.aload_n 0, 83) := pm_of cl4_1 8 (q := (82, .aload_n 0, 83)) rfl
theorem c4_83 : pm_code 4 83 = some (.getfield 21, 86) := pm_of cl4_1 9 (q := (83, .getfield 21, 86)) rfl
theorem c4_86 : pm_code 4 86 = some (.aload_n 0, 87) := pm_of cl4_1 10 (q := (86, .aload_n 0, 87)) rfl
theorem c4_87 : pm_code 4 87 = some (.getfield 29, 90) := pm_of cl4_1 11 (q := (87, .getfield 29, 90)) rfl
theorem c4_90 : pm_code 4 90 = some (.aload_n 0, 91) := pm_of cl4_1 12 (q := (90, .aload_n 0, 91)) rfl
theorem c4_91 : pm_code 4 91 = some (.getfield 25, 94) := pm_of cl4_1 13 (q := (91, .getfield 25, 94)) rfl
theorem c4_94 : pm_code 4 94 = some (.invokestatic 43, 97) := pm_of cl4_1 14 (q := (94, .invokestatic 43, 97)) rfl
theorem c4_97 : pm_code 4 97 = some (.aload_n 0, 98) := pm_of cl4_1 15 (q := (97, .aload_n 0, 98)) rfl
theorem c4_98 : pm_code 4 98 = some (.dup, 99) := pm_of cl4_1 16 (q := (98, .dup, 99)) rfl
theorem c4_99 : pm_code 4 99 = some (.getfield 29, 102) := pm_of cl4_1 17 (q := (99, .getfield 29, 102)) rfl
theorem c4_102 : pm_code 4 102 = some (.iconst 1, 103) := pm_of cl4_1 18 (q := (102, .iconst 1, 103)) rfl
theorem c4_103 : pm_code 4 103 = some (.iadd, 104) := pm_of cl4_1 19 (q := (103, .iadd, 104)) rfl
theorem c4_104 : pm_code 4 104 = some (.putfield 29, 107) := pm_of cl4_1 20 (q := (104, .putfield 29, 107)) rfl
theorem c4_107 : pm_code 4 107 = some (.return_, 108) := pm_of cl4_1 21 (q := (107, .return_, 108)) rfl
theorem k5 : pm_k 5 = 0 := by decide +kernel
theorem ml5 : pm_ml 5 = 4 := by decide +kernel
theorem rt5 : pm_rt 5 = none := by decide +kernel
theorem hh5 : pm_hh 5 = [] := by decide +kernel
theorem rc5 : pm_cl 0 = (pm_y 5).cls := by decide +kernel
theorem cl5_0 : ([(0, .aload_n 0, 1), (1, .getfield 29, 4), (4, .iconst 1, 5), (5, .isub, 6), (6, .bipush 17, 8), (8, .imul, 9), (9, .bipush 16, 11), (11, .iadd, 12), (12, .istore_n 2, 13), (13, .iload_n 2, 14), (14, .bipush 16, 16), (16, .if_icmp .lt 12, 19), (19, .iload_n 2, 20), (20, .aload_n 0, 21), (21, .getfield 18, 24), (24, .arraylength, 25), (25, .if_icmp .lt 4, 28), (28, .return_, 29), (29, .aload_n 0, 30), (30, .dup, 31), (31, .getfield 29, 34), (34, .iconst 1, 35), (35, .isub, 36), (36, .putfield 29, 39), (39, .aload_n 1, 40), (40, .aload_n 0, 41), (41, .getfield 18, 44), (44, .iload_n 2, 45), (45, .aaload, 46), (46, .invokevirtual 36, 49), (49, .aload_n 0, 50), (50, .aload_n 0, 51), (51, .getfield 21, 54), (54, .aload_n 0, 55), (55, .getfield 29, 58), (58, .invokestatic 47, 61), (61, .putfield 25, 64), (64, .iconst 0, 65), (65, .istore_n 3, 66), (66, .iload_n 3, 67)] : List (Nat × Instr × Nat)).all (fun q => decide (pm_code 5 q.1 = some q.2)) = true := by decide +kernel
theorem c5_0 : pm_code 5 0 = some (.aload_n 0, 1) := pm_of cl5_0 0 (q := (0, .aload_n 0, 1)) rfl
theorem c5_1 : pm_code 5 1 = some (.getfield 29, 4) := pm_of cl5_0 1 (q := (1, .getfield 29, 4)) rfl
theorem c5_4 : pm_code 5 4 = some (.iconst 1, 5) := pm_of cl5_0 2 (q := (4, .iconst 1, 5)) rfl
theorem c5_5 : pm_code 5 5 = some (.isub, 6) := pm_of cl5_0 3 (q := (5, .isub, 6)) rfl
theorem c5_6 : pm_code 5 6 = some (.bipush 17, 8) := pm_of cl5_0 4 (q := (6, .bipush 17, 8)) rfl
theorem c5_8 : pm_code 5 8 = some (.imul, 9) := pm_of cl5_0 5 (q := (8, .imul, 9)) rfl
theorem c5_9 : pm_code 5 9 = some (.bipush 16, 11) := pm_of cl5_0 6 (q := (9, .bipush 16, 11)) rfl
theorem c5_11 : pm_code 5 11 = some (.iadd, 12) := pm_of cl5_0 7 (q := (11, .iadd, 12)) rfl
theorem c5_12 : pm_code 5 12 = some (.istore_n 2, 13) := pm_of cl5_0 8 (q := (12, .istore_n 2, 13)) rfl
theorem c5_13 : pm_code 5 13 = some (.iload_n 2, 14) := pm_of cl5_0 9 (q := (13, .iload_n 2, 14)) rfl
theorem c5_14 : pm_code 5 14 = some (.bipush 16, 16) := pm_of cl5_0 10 (q := (14, .bipush 16, 16)) rfl
theorem c5_16 : pm_code 5 16 = some (.if_icmp .lt 12, 19) := pm_of cl5_0 11 (q := (16, .if_icmp .lt 12, 19)) rfl
theorem c5_19 : pm_code 5 19 = some (.iload_n 2, 20) := pm_of cl5_0 12 (q := (19, .iload_n 2, 20)) rfl
theorem c5_20 : pm_code 5 20 = some (.aload_n 0, 21) := pm_of cl5_0 13 (q := (20, .aload_n 0, 21)) rfl
theorem c5_21 : pm_code 5 21 = some (.getfield 18, 24) := pm_of cl5_0 14 (q := (21, .getfield 18, 24)) rfl
theorem c5_24 : pm_code 5 24 = some (.arraylength, 25) := pm_of cl5_0 15 (q := (24, .arraylength, 25)) rfl
theorem c5_25 : pm_code 5 25 = some (.if_icmp .lt 4, 28) := pm_of cl5_0 16 (q := (25, .if_icmp .lt 4, 28)) rfl
theorem c5_28 : pm_code 5 28 = some (.return_, 29) := pm_of cl5_0 17 (q := (28, .return_, 29)) rfl
theorem c5_29 : pm_code 5 29 = some (.aload_n 0, 30) := pm_of cl5_0 18 (q := (29, .aload_n 0, 30)) rfl
theorem c5_30 : pm_code 5 30 = some (.dup, 31) := pm_of cl5_0 19 (q := (30, .dup, 31)) rfl
theorem c5_31 : pm_code 5 31 = some (.getfield 29, 34) := pm_of cl5_0 20 (q := (31, .getfield 29, 34)) rfl
theorem c5_34 : pm_code 5 34 = some (.iconst 1, 35) := pm_of cl5_0 21 (q := (34, .iconst 1, 35)) rfl
theorem c5_35 : pm_code 5 35 = some (.isub, 36) := pm_of cl5_0 22 (q := (35, .isub, 36)) rfl
theorem c5_36 : pm_code 5 36 = some (.putfield 29, 39) := pm_of cl5_0 23 (q := (36, .putfield 29, 39)) rfl
theorem c5_39 : pm_code 5 39 = some (.aload_n 1, 40) := pm_of cl5_0 24 (q := (39, .aload_n 1, 40)) rfl
theorem c5_40 : pm_code 5 40 = some (.aload_n 0, 41) := pm_of cl5_0 25 (q := (40, .aload_n 0, 41)) rfl
theorem c5_41 : pm_code 5 41 = some (.getfield 18, 44) := pm_of cl5_0 26 (q := (41, .getfield 18, 44)) rfl
theorem c5_44 : pm_code 5 44 = some (.iload_n 2, 45) := pm_of cl5_0 27 (q := (44, .iload_n 2, 45)) rfl
theorem c5_45 : pm_code 5 45 = some (.aaload, 46) := pm_of cl5_0 28 (q := (45, .aaload, 46)) rfl
theorem c5_46 : pm_code 5 46 = some (.invokevirtual 36, 49) := pm_of cl5_0 29 (q := (46, .invokevirtual 36, 49)) rfl
theorem c5_49 : pm_code 5 49 = some (.aload_n 0, 50) := pm_of cl5_0 30 (q := (49, .aload_n 0, 50)) rfl
theorem c5_50 : pm_code 5 50 = some (.aload_n 0, 51) := pm_of cl5_0 31 (q := (50, .aload_n 0, 51)) rfl
theorem c5_51 : pm_code 5 51 = some (.getfield 21, 54) := pm_of cl5_0 32 (q := (51, .getfield 21, 54)) rfl
theorem c5_54 : pm_code 5 54 = some (.aload_n 0, 55) := pm_of cl5_0 33 (q := (54, .aload_n 0, 55)) rfl
theorem c5_55 : pm_code 5 55 = some (.getfield 29, 58) := pm_of cl5_0 34 (q := (55, .getfield 29, 58)) rfl
theorem c5_58 : pm_code 5 58 = some (.invokestatic 47, 61) := pm_of cl5_0 35 (q := (58, .invokestatic 47, 61)) rfl
theorem c5_61 : pm_code 5 61 = some (.putfield 25, 64) := pm_of cl5_0 36 (q := (61, .putfield 25, 64)) rfl
theorem c5_64 : pm_code 5 64 = some (.iconst 0, 65) := pm_of cl5_0 37 (q := (64, .iconst 0, 65)) rfl
theorem c5_65 : pm_code 5 65 = some (.istore_n 3, 66) := pm_of cl5_0 38 (q := (65, .istore_n 3, 66)) rfl
theorem c5_66 : pm_code 5 66 = some (.iload_n 3, 67) := pm_of cl5_0 39 (q := (66, .iload_n 3, 67)) rfl
theorem cl5_1 : ([(67, .aload_n 0, 68), (68, .getfield 25, 71), (71, .if_icmp .ge 38, 74), (74, .iload_n 3, 75), (75, .aload_n 0, 76), (76, .getfield 13, 79), (79, .arraylength, 80), (80, .if_icmp .ge 29, 83), (83, .aload_n 0, 84), (84, .getfield 18, 87), (87, .iload_n 2, 88), (88, .bipush 16, 90), (90, .isub, 91), (91, .iload_n 3, 92), (92, .iadd, 93), (93, .aaload, 94), (94, .aload_n 0, 95), (95, .getfield 13, 98), (98, .iload_n 3, 99), (99, .aaload, 100), (100, .invokestatic 39, 103), (103, .iinc 3 1, 106), (106, .goto (-40), 109), (109, .return_, 110)] : List (Nat × Instr × Nat)).all (fun q => decide (pm_code 5 q.1 = some q.2)) = true := by decide +kernel
theorem c5_67 : pm_code 5 67 = some (.aload_n 0, 68) := pm_of cl5_1 0 (q := (67, .aload_n 0, 68)) rfl
theorem c5_68 : pm_code 5 68 = some (.getfield 25, 71) := pm_of cl5_1 1 (q := (68, .getfield 25, 71)) rfl
theorem c5_71 : pm_code 5 71 = some (.if_icmp .ge 38, 74) := pm_of cl5_1 2 (q := (71, .if_icmp .ge 38, 74)) rfl
theorem c5_74 : pm_code 5 74 = some (.iload_n 3, 75) := pm_of cl5_1 3 (q := (74, .iload_n 3, 75)) rfl
theorem c5_75 : pm_code 5 75 = some (.aload_n 0, 76) := pm_of cl5_1 4 (q := (75, .aload_n 0, 76)) rfl
theorem c5_76 : pm_code 5 76 = some (.getfield 13, 79) := pm_of cl5_1 5 (q := (76, .getfield 13, 79)) rfl
theorem c5_79 : pm_code 5 79 = some (.arraylength, 80) := pm_of cl5_1 6 (q := (79, .arraylength, 80)) rfl
theorem c5_80 : pm_code 5 80 = some (.if_icmp .ge 29, 83) := pm_of cl5_1 7 (q := (80, .if_icmp .ge 29, 83)) rfl
theorem c5_83 : pm_code 5 83 = some (.aload_n 0, 84) := pm_of cl5_1 8 (q := (83, .aload_n 0, 84)) rfl
theorem c5_84 : pm_code 5 84 = some (.getfield 18, 87) := pm_of cl5_1 9 (q := (84, .getfield 18, 87)) rfl
theorem c5_87 : pm_code 5 87 = some (.iload_n 2, 88) := pm_of cl5_1 10 (q := (87, .iload_n 2, 88)) rfl
theorem c5_88 : pm_code 5 88 = some (.bipush 16, 90) := pm_of cl5_1 11 (q := (88, .bipush 16, 90)) rfl
theorem c5_90 : pm_code 5 90 = some (.isub, 91) := pm_of cl5_1 12 (q := (90, .isub, 91)) rfl
theorem c5_91 : pm_code 5 91 = some (.iload_n 3, 92) := pm_of cl5_1 13 (q := (91, .iload_n 3, 92)) rfl
theorem c5_92 : pm_code 5 92 = some (.iadd, 93) := pm_of cl5_1 14 (q := (92, .iadd, 93)) rfl
theorem c5_93 : pm_code 5 93 = some (.aaload, 94) := pm_of cl5_1 15 (q := (93, .aaload, 94)) rfl
theorem c5_94 : pm_code 5 94 = some (.aload_n 0, 95) := pm_of cl5_1 16 (q := (94, .aload_n 0, 95)) rfl
theorem c5_95 : pm_code 5 95 = some (.getfield 13, 98) := pm_of cl5_1 17 (q := (95, .getfield 13, 98)) rfl
theorem c5_98 : pm_code 5 98 = some (.iload_n 3, 99) := pm_of cl5_1 18 (q := (98, .iload_n 3, 99)) rfl
theorem c5_99 : pm_code 5 99 = some (.aaload, 100) := pm_of cl5_1 19 (q := (99, .aaload, 100)) rfl
theorem c5_100 : pm_code 5 100 = some (.invokestatic 39, 103) := pm_of cl5_1 20 (q := (100, .invokestatic 39, 103)) rfl
theorem c5_103 : pm_code 5 103 = some (.iinc 3 1, 106) := pm_of cl5_1 21 (q := (103, .iinc 3 1, 106)) rfl
theorem c5_106 : pm_code 5 106 = some (.goto (-40), 109) := pm_of cl5_1 22 (q := (106, .goto (-40), 109)) rfl
theorem c5_109 : pm_code 5 109 = some (.return_, 110) := pm_of cl5_1 23 (q := (109, .return_, 110)) rfl
theorem k6 : pm_k 6 = 0 := by decide +kernel
theorem ml6 : pm_ml 6 = 1 := by decide +kernel
theorem rt6 : pm_rt 6 = none := by decide +kernel
theorem hh6 : pm_hh 6 = [] := by decide +kernel
theorem rc6 : pm_cl 0 = (pm_y 6).cls := by decide +kernel
theorem cl6_0 : ([(0, .aload_n 0, 1), (1, .iconst 0, 2), (2, .putfield 25, 5), (5, .aload_n 0, 6), (6, .iconst 0, 7), (7, .putfield 29, 10), (10, .return_, 11)] : List (Nat × Instr × Nat)).all (fun q => decide (pm_code 6 q.1 = some q.2)) = true := by decide +kernel
theorem c6_0 : pm_code 6 0 = some (.aload_n 0, 1) := pm_of cl6_0 0 (q := (0, .aload_n 0, 1)) rfl
theorem c6_1 : pm_code 6 1 = some (.iconst 0, 2) := pm_of cl6_0 1 (q := (1, .iconst 0, 2)) rfl
theorem c6_2 : pm_code 6 2 = some (.putfield 25, 5) := pm_of cl6_0 2 (q := (2, .putfield 25, 5)) rfl
theorem c6_5 : pm_code 6 5 = some (.aload_n 0, 6) := pm_of cl6_0 3 (q := (5, .aload_n 0, 6)) rfl
theorem c6_6 : pm_code 6 6 = some (.iconst 0, 7) := pm_of cl6_0 4 (q := (6, .iconst 0, 7)) rfl
theorem c6_7 : pm_code 6 7 = some (.putfield 29, 10) := pm_of cl6_0 5 (q := (7, .putfield 29, 10)) rfl
theorem c6_10 : pm_code 6 10 = some (.return_, 11) := pm_of cl6_0 6 (q := (10, .return_, 11)) rfl
theorem k7 : pm_k 7 = 0 := by decide +kernel
theorem ml7 : pm_ml 7 = 2 := by decide +kernel
theorem rt7 : pm_rt 7 = none := by decide +kernel
theorem hh7 : pm_hh 7 = [] := by decide +kernel
theorem rc7 : pm_cl 0 = (pm_y 7).cls := by decide +kernel
theorem cl7_0 : ([(0, .aload_n 0, 1), (1, .getfield 25, 4), (4, .ifCond .lt 38, 7), (7, .aload_n 0, 8), (8, .getfield 25, 11), (11, .aload_n 0, 12), (12, .getfield 13, 15), (15, .arraylength, 16), (16, .if_icmp .ge 26, 19), (19, .aload_n 1, 20), (20, .aload_n 0, 21), (21, .getfield 13, 24), (24, .aload_n 0, 25), (25, .getfield 25, 28), (28, .aaload, 29), (29, .invokevirtual 32, 32), (32, .aload_n 0, 33), (33, .dup, 34), (34, .getfield 25, 37), (37, .iconst 1, 38), (38, .iadd, 39), (39, .putfield 25, 42), (42, .return_, 43)] : List (Nat × Instr × Nat)).all (fun q => decide (pm_code 7 q.1 = some q.2)) = true := by decide +kernel
theorem c7_0 : pm_code 7 0 = some (.aload_n 0, 1) := pm_of cl7_0 0 (q := (0, .aload_n 0, 1)) rfl
theorem c7_1 : pm_code 7 1 = some (.getfield 25, 4) := pm_of cl7_0 1 (q := (1, .getfield 25, 4)) rfl
theorem c7_4 : pm_code 7 4 = some (.ifCond .lt 38, 7) := pm_of cl7_0 2 (q := (4, .ifCond .lt 38, 7)) rfl
theorem c7_7 : pm_code 7 7 = some (.aload_n 0, 8) := pm_of cl7_0 3 (q := (7, .aload_n 0, 8)) rfl
theorem c7_8 : pm_code 7 8 = some (.getfield 25, 11) := pm_of cl7_0 4 (q := (8, .getfield 25, 11)) rfl
theorem c7_11 : pm_code 7 11 = some (.aload_n 0, 12) := pm_of cl7_0 5 (q := (11, .aload_n 0, 12)) rfl
theorem c7_12 : pm_code 7 12 = some (.getfield 13, 15) := pm_of cl7_0 6 (q := (12, .getfield 13, 15)) rfl
theorem c7_15 : pm_code 7 15 = some (.arraylength, 16) := pm_of cl7_0 7 (q := (15, .arraylength, 16)) rfl
theorem c7_16 : pm_code 7 16 = some (.if_icmp .ge 26, 19) := pm_of cl7_0 8 (q := (16, .if_icmp .ge 26, 19)) rfl
theorem c7_19 : pm_code 7 19 = some (.aload_n 1, 20) := pm_of cl7_0 9 (q := (19, .aload_n 1, 20)) rfl
theorem c7_20 : pm_code 7 20 = some (.aload_n 0, 21) := pm_of cl7_0 10 (q := (20, .aload_n 0, 21)) rfl
theorem c7_21 : pm_code 7 21 = some (.getfield 13, 24) := pm_of cl7_0 11 (q := (21, .getfield 13, 24)) rfl
theorem c7_24 : pm_code 7 24 = some (.aload_n 0, 25) := pm_of cl7_0 12 (q := (24, .aload_n 0, 25)) rfl
theorem c7_25 : pm_code 7 25 = some (.getfield 25, 28) := pm_of cl7_0 13 (q := (25, .getfield 25, 28)) rfl
theorem c7_28 : pm_code 7 28 = some (.aaload, 29) := pm_of cl7_0 14 (q := (28, .aaload, 29)) rfl
theorem c7_29 : pm_code 7 29 = some (.invokevirtual 32, 32) := pm_of cl7_0 15 (q := (29, .invokevirtual 32, 32)) rfl
theorem c7_32 : pm_code 7 32 = some (.aload_n 0, 33) := pm_of cl7_0 16 (q := (32, .aload_n 0, 33)) rfl
theorem c7_33 : pm_code 7 33 = some (.dup, 34) := pm_of cl7_0 17 (q := (33, .dup, 34)) rfl
theorem c7_34 : pm_code 7 34 = some (.getfield 25, 37) := pm_of cl7_0 18 (q := (34, .getfield 25, 37)) rfl
theorem c7_37 : pm_code 7 37 = some (.iconst 1, 38) := pm_of cl7_0 19 (q := (37, .iconst 1, 38)) rfl
theorem c7_38 : pm_code 7 38 = some (.iadd, 39) := pm_of cl7_0 20 (q := (38, .iadd, 39)) rfl
theorem c7_39 : pm_code 7 39 = some (.putfield 25, 42) := pm_of cl7_0 21 (q := (39, .putfield 25, 42)) rfl
theorem c7_42 : pm_code 7 42 = some (.return_, 43) := pm_of cl7_0 22 (q := (42, .return_, 43)) rfl
theorem k8 : pm_k 8 = 1 := by decide +kernel
theorem ml8 : pm_ml 8 = 1 := by decide +kernel
theorem rt8 : pm_rt 8 = none := by decide +kernel
theorem hh8 : pm_hh 8 = [] := by decide +kernel
theorem rc8 : pm_cl 1 = (pm_y 8).cls := by decide +kernel
theorem cl8_0 : ([(0, .aload_n 0, 1), (1, .invokespecial 3, 4), (4, .aload_n 0, 5), (5, .bipush 8, 7), (7, .newarray .int, 9), (9, .putfield 9, 12), (12, .aload_n 0, 13), (13, .bipush 8, 15), (15, .newarray .int, 17), (17, .putfield 15, 20), (20, .aload_n 0, 21), (21, .iconst 0, 22), (22, .putfield 18, 25), (25, .return_, 26)] : List (Nat × Instr × Nat)).all (fun q => decide (pm_code 8 q.1 = some q.2)) = true := by decide +kernel
theorem c8_0 : pm_code 8 0 = some (.aload_n 0, 1) := pm_of cl8_0 0 (q := (0, .aload_n 0, 1)) rfl
theorem c8_1 : pm_code 8 1 = some (.invokespecial 3, 4) := pm_of cl8_0 1 (q := (1, .invokespecial 3, 4)) rfl
theorem c8_4 : pm_code 8 4 = some (.aload_n 0, 5) := pm_of cl8_0 2 (q := (4, .aload_n 0, 5)) rfl
theorem c8_5 : pm_code 8 5 = some (.bipush 8, 7) := pm_of cl8_0 3 (q := (5, .bipush 8, 7)) rfl
theorem c8_7 : pm_code 8 7 = some (.newarray .int, 9) := pm_of cl8_0 4 (q := (7, .newarray .int, 9)) rfl
theorem c8_9 : pm_code 8 9 = some (.putfield 9, 12) := pm_of cl8_0 5 (q := (9, .putfield 9, 12)) rfl
theorem c8_12 : pm_code 8 12 = some (.aload_n 0, 13) := pm_of cl8_0 6 (q := (12, .aload_n 0, 13)) rfl
theorem c8_13 : pm_code 8 13 = some (.bipush 8, 15) := pm_of cl8_0 7 (q := (13, .bipush 8, 15)) rfl
theorem c8_15 : pm_code 8 15 = some (.newarray .int, 17) := pm_of cl8_0 8 (q := (15, .newarray .int, 17)) rfl
theorem c8_17 : pm_code 8 17 = some (.putfield 15, 20) := pm_of cl8_0 9 (q := (17, .putfield 15, 20)) rfl
theorem c8_20 : pm_code 8 20 = some (.aload_n 0, 21) := pm_of cl8_0 10 (q := (20, .aload_n 0, 21)) rfl
theorem c8_21 : pm_code 8 21 = some (.iconst 0, 22) := pm_of cl8_0 11 (q := (21, .iconst 0, 22)) rfl
theorem c8_22 : pm_code 8 22 = some (.putfield 18, 25) := pm_of cl8_0 12 (q := (22, .putfield 18, 25)) rfl
theorem c8_25 : pm_code 8 25 = some (.return_, 26) := pm_of cl8_0 13 (q := (25, .return_, 26)) rfl
theorem k9 : pm_k 9 = 1 := by decide +kernel
theorem ml9 : pm_ml 9 = 1 := by decide +kernel
theorem rt9 : pm_rt 9 = none := by decide +kernel
theorem hh9 : pm_hh 9 = [] := by decide +kernel
theorem rc9 : pm_cl 1 = (pm_y 9).cls := by decide +kernel
theorem cl9_0 : ([(0, .aload_n 0, 1), (1, .iconst 0, 2), (2, .putfield 18, 5), (5, .return_, 6)] : List (Nat × Instr × Nat)).all (fun q => decide (pm_code 9 q.1 = some q.2)) = true := by decide +kernel
theorem c9_0 : pm_code 9 0 = some (.aload_n 0, 1) := pm_of cl9_0 0 (q := (0, .aload_n 0, 1)) rfl
theorem c9_1 : pm_code 9 1 = some (.iconst 0, 2) := pm_of cl9_0 1 (q := (1, .iconst 0, 2)) rfl
theorem c9_2 : pm_code 9 2 = some (.putfield 18, 5) := pm_of cl9_0 2 (q := (2, .putfield 18, 5)) rfl
theorem c9_5 : pm_code 9 5 = some (.return_, 6) := pm_of cl9_0 3 (q := (5, .return_, 6)) rfl
theorem k10 : pm_k 10 = 1 := by decide +kernel
theorem ml10 : pm_ml 10 = 3 := by decide +kernel
theorem rt10 : pm_rt 10 = none := by decide +kernel
theorem hh10 : pm_hh 10 = [] := by decide +kernel
theorem rc10 : pm_cl 1 = (pm_y 10).cls := by decide +kernel
theorem cl10_0 : ([(0, .aload_n 0, 1), (1, .iconst 0, 2), (2, .putfield 18, 5), (5, .iconst 0, 6), (6, .istore_n 2, 7), (7, .iload_n 2, 8), (8, .bipush 8, 10), (10, .if_icmp .gt 21, 13), (13, .aload_n 1, 14), (14, .invokevirtual 22, 17), (17, .ifCond .eq 14, 20), (20, .aload_n 0, 21), (21, .aload_n 1, 22), (22, .invokevirtual 28, 25), (25, .iinc 2 1, 28), (28, .goto (-21), 31), (31, .return_, 32)] : List (Nat × Instr × Nat)).all (fun q => decide (pm_code 10 q.1 = some q.2)) = true := by decide +kernel
theorem c10_0 : pm_code 10 0 = some (.aload_n 0, 1) := pm_of cl10_0 0 (q := (0, .aload_n 0, 1)) rfl
theorem c10_1 : pm_code 10 1 = some (.iconst 0, 2) := pm_of cl10_0 1 (q := (1, .iconst 0, 2)) rfl
theorem c10_2 : pm_code 10 2 = some (.putfield 18, 5) := pm_of cl10_0 2 (q := (2, .putfield 18, 5)) rfl
theorem c10_5 : pm_code 10 5 = some (.iconst 0, 6) := pm_of cl10_0 3 (q := (5, .iconst 0, 6)) rfl
theorem c10_6 : pm_code 10 6 = some (.istore_n 2, 7) := pm_of cl10_0 4 (q := (6, .istore_n 2, 7)) rfl
theorem c10_7 : pm_code 10 7 = some (.iload_n 2, 8) := pm_of cl10_0 5 (q := (7, .iload_n 2, 8)) rfl
theorem c10_8 : pm_code 10 8 = some (.bipush 8, 10) := pm_of cl10_0 6 (q := (8, .bipush 8, 10)) rfl
theorem c10_10 : pm_code 10 10 = some (.if_icmp .gt 21, 13) := pm_of cl10_0 7 (q := (10, .if_icmp .gt 21, 13)) rfl
theorem c10_13 : pm_code 10 13 = some (.aload_n 1, 14) := pm_of cl10_0 8 (q := (13, .aload_n 1, 14)) rfl
theorem c10_14 : pm_code 10 14 = some (.invokevirtual 22, 17) := pm_of cl10_0 9 (q := (14, .invokevirtual 22, 17)) rfl
theorem c10_17 : pm_code 10 17 = some (.ifCond .eq 14, 20) := pm_of cl10_0 10 (q := (17, .ifCond .eq 14, 20)) rfl
theorem c10_20 : pm_code 10 20 = some (.aload_n 0, 21) := pm_of cl10_0 11 (q := (20, .aload_n 0, 21)) rfl
theorem c10_21 : pm_code 10 21 = some (.aload_n 1, 22) := pm_of cl10_0 12 (q := (21, .aload_n 1, 22)) rfl
theorem c10_22 : pm_code 10 22 = some (.invokevirtual 28, 25) := pm_of cl10_0 13 (q := (22, .invokevirtual 28, 25)) rfl
theorem c10_25 : pm_code 10 25 = some (.iinc 2 1, 28) := pm_of cl10_0 14 (q := (25, .iinc 2 1, 28)) rfl
theorem c10_28 : pm_code 10 28 = some (.goto (-21), 31) := pm_of cl10_0 15 (q := (28, .goto (-21), 31)) rfl
theorem c10_31 : pm_code 10 31 = some (.return_, 32) := pm_of cl10_0 16 (q := (31, .return_, 32)) rfl
theorem k11 : pm_k 11 = 1 := by decide +kernel
theorem ml11 : pm_ml 11 = 2 := by decide +kernel
theorem rt11 : pm_rt 11 = none := by decide +kernel
theorem hh11 : pm_hh 11 = [] := by decide +kernel
theorem rc11 : pm_cl 1 = (pm_y 11).cls := by decide +kernel
theorem cl11_0 : ([(0, .aload_n 1, 1), (1, .invokevirtual 32, 4), (4, .ifCond .ne 9, 7), (7, .aload_n 1, 8), (8, .iconst 1, 9), (9, .invokevirtual 35, 12), (12, .return_, 13), (13, .aload_n 1, 14), (14, .invokevirtual 39, 17), (17, .sipush 499, 20), (20, .if_icmp .gt 14, 23), (23, .aload_n 0, 24), (24, .aload_n 1, 25), (25, .invokevirtual 39, 28), (28, .invokevirtual 43, 31), (31, .ifCond .eq 9, 34), (34, .aload_n 1, 35), (35, .iconst 2, 36), (36, .invokevirtual 35, 39), (39, .return_, 40), (40, .aload_n 0, 41), (41, .getfield 18, 44), (44, .bipush 8, 46), (46, .if_icmp .lt 9, 49), (49, .aload_n 1, 50), (50, .iconst 3, 51), (51, .invokevirtual 35, 54), (54, .return_, 55), (55, .aload_n 0, 56), (56, .getfield 9, 59), (59, .aload_n 0, 60), (60, .getfield 18, 63), (63, .aload_n 1, 64), (64, .invokevirtual 39, 67), (67, .invokestatic 47, 70), (70, .aload_n 1, 71), (71, .invokevirtual 51, 74), (74, .aload_n 0, 75), (75, .getfield 15, 78), (78, .aload_n 0, 79)] : List (Nat × Instr × Nat)).all (fun q => decide (pm_code 11 q.1 = some q.2)) = true := by decide +kernel
theorem c11_0 : pm_code 11 0 = some (.aload_n 1, 1) := pm_of cl11_0 0 (q := (0, .aload_n 1, 1)) rfl
theorem c11_1 : pm_code 11 1 = some (.invokevirtual 32, 4) := pm_of cl11_0 1 (q := (1, .invokevirtual 32, 4)) rfl
theorem c11_4 : pm_code 11 4 = some (.ifCond .ne 9, 7) := pm_of cl11_0 2 (q := (4, .ifCond .ne 9, 7)) rfl
theorem c11_7 : pm_code 11 7 = some (.aload_n 1, 8) := pm_of cl11_0 3 (q := (7, .aload_n 1, 8)) rfl
theorem c11_8 : pm_code 11 8 = some (.iconst 1, 9) := pm_of cl11_0 4 (q := (8, .iconst 1, 9)) rfl
theorem c11_9 : pm_code 11 9 = some (.invokevirtual 35, 12) := pm_of cl11_0 5 (q := (9, .invokevirtual 35, 12)) rfl
theorem c11_12 : pm_code 11 12 = some (.return_, 13) := pm_of cl11_0 6 (q := (12, .return_, 13)) rfl
theorem c11_13 : pm_code 11 13 = some (.aload_n 1, 14) := pm_of cl11_0 7 (q := (13, .aload_n 1, 14)) rfl
theorem c11_14 : pm_code 11 14 = some (.invokevirtual 39, 17) := pm_of cl11_0 8 (q := (14, .invokevirtual 39, 17)) rfl
theorem c11_17 : pm_code 11 17 = some (.sipush 499, 20) := pm_of cl11_0 9 (q := (17, .sipush 499, 20)) rfl
theorem c11_20 : pm_code 11 20 = some (.if_icmp .gt 14, 23) := pm_of cl11_0 10 (q := (20, .if_icmp .gt 14, 23)) rfl
theorem c11_23 : pm_code 11 23 = some (.aload_n 0, 24) := pm_of cl11_0 11 (q := (23, .aload_n 0, 24)) rfl
theorem c11_24 : pm_code 11 24 = some (.aload_n 1, 25) := pm_of cl11_0 12 (q := (24, .aload_n 1, 25)) rfl
theorem c11_25 : pm_code 11 25 = some (.invokevirtual 39, 28) := pm_of cl11_0 13 (q := (25, .invokevirtual 39, 28)) rfl
theorem c11_28 : pm_code 11 28 = some (.invokevirtual 43, 31) := pm_of cl11_0 14 (q := (28, .invokevirtual 43, 31)) rfl
theorem c11_31 : pm_code 11 31 = some (.ifCond .eq 9, 34) := pm_of cl11_0 15 (q := (31, .ifCond .eq 9, 34)) rfl
theorem c11_34 : pm_code 11 34 = some (.aload_n 1, 35) := pm_of cl11_0 16 (q := (34, .aload_n 1, 35)) rfl
theorem c11_35 : pm_code 11 35 = some (.iconst 2, 36) := pm_of cl11_0 17 (q := (35, .iconst 2, 36)) rfl
theorem c11_36 : pm_code 11 36 = some (.invokevirtual 35, 39) := pm_of cl11_0 18 (q := (36, .invokevirtual 35, 39)) rfl
theorem c11_39 : pm_code 11 39 = some (.return_, 40) := pm_of cl11_0 19 (q := (39, .return_, 40)) rfl
theorem c11_40 : pm_code 11 40 = some (.aload_n 0, 41) := pm_of cl11_0 20 (q := (40, .aload_n 0, 41)) rfl
theorem c11_41 : pm_code 11 41 = some (.getfield 18, 44) := pm_of cl11_0 21 (q := (41, .getfield 18, 44)) rfl
theorem c11_44 : pm_code 11 44 = some (.bipush 8, 46) := pm_of cl11_0 22 (q := (44, .bipush 8, 46)) rfl
theorem c11_46 : pm_code 11 46 = some (.if_icmp .lt 9, 49) := pm_of cl11_0 23 (q := (46, .if_icmp .lt 9, 49)) rfl
theorem c11_49 : pm_code 11 49 = some (.aload_n 1, 50) := pm_of cl11_0 24 (q := (49, .aload_n 1, 50)) rfl
theorem c11_50 : pm_code 11 50 = some (.iconst 3, 51) := pm_of cl11_0 25 (q := (50, .iconst 3, 51)) rfl
theorem c11_51 : pm_code 11 51 = some (.invokevirtual 35, 54) := pm_of cl11_0 26 (q := (51, .invokevirtual 35, 54)) rfl
theorem c11_54 : pm_code 11 54 = some (.return_, 55) := pm_of cl11_0 27 (q := (54, .return_, 55)) rfl
theorem c11_55 : pm_code 11 55 = some (.aload_n 0, 56) := pm_of cl11_0 28 (q := (55, .aload_n 0, 56)) rfl
theorem c11_56 : pm_code 11 56 = some (.getfield 9, 59) := pm_of cl11_0 29 (q := (56, .getfield 9, 59)) rfl
theorem c11_59 : pm_code 11 59 = some (.aload_n 0, 60) := pm_of cl11_0 30 (q := (59, .aload_n 0, 60)) rfl
theorem c11_60 : pm_code 11 60 = some (.getfield 18, 63) := pm_of cl11_0 31 (q := (60, .getfield 18, 63)) rfl
theorem c11_63 : pm_code 11 63 = some (.aload_n 1, 64) := pm_of cl11_0 32 (q := (63, .aload_n 1, 64)) rfl
theorem c11_64 : pm_code 11 64 = some (.invokevirtual 39, 67) := pm_of cl11_0 33 (q := (64, .invokevirtual 39, 67)) rfl
theorem c11_67 : pm_code 11 67 = some (.invokestatic 47, 70) := pm_of cl11_0 34 (q := (67, .invokestatic 47, 70)) rfl
theorem c11_70 : pm_code 11 70 = some (.aload_n 1, 71) := pm_of cl11_0 35 (q := (70, .aload_n 1, 71)) rfl
theorem c11_71 : pm_code 11 71 = some (.invokevirtual 51, 74) := pm_of cl11_0 36 (q := (71, .invokevirtual 51, 74)) rfl
theorem c11_74 : pm_code 11 74 = some (.aload_n 0, 75) := pm_of cl11_0 37 (q := (74, .aload_n 0, 75)) rfl
theorem c11_75 : pm_code 11 75 = some (.getfield 15, 78) := pm_of cl11_0 38 (q := (75, .getfield 15, 78)) rfl
theorem c11_78 : pm_code 11 78 = some (.aload_n 0, 79) := pm_of cl11_0 39 (q := (78, .aload_n 0, 79)) rfl
theorem cl11_1 : ([(79, .getfield 18, 82), (82, .aload_n 1, 83), (83, .iconst 0, 84), (84, .sipush 999, 87), (87, .invokevirtual 54, 90), (90, .invokestatic 47, 93), (93, .aload_n 0, 94), (94, .dup, 95), (95, .getfield 18, 98), (98, .iconst 1, 99), (99, .iadd, 100), (100, .putfield 18, 103), (103, .aload_n 1, 104), (104, .bipush 59, 106), (106, .invokevirtual 58, 109), (109, .return_, 110)] : List (Nat × Instr × Nat)).all (fun q => decide (pm_code 11 q.1 = some q.2)) = true := by decide +kernel
theorem c11_79 : pm_code 11 79 = some (.getfield 18, 82) := pm_of cl11_1 0 (q := (79, .getfield 18, 82)) rfl
theorem c11_82 : pm_code 11 82 = some (.aload_n 1, 83) := pm_of cl11_1 1 (q := (82, .aload_n 1, 83)) rfl
theorem c11_83 : pm_code 11 83 = some (.iconst 0, 84) := pm_of cl11_1 2 (q := (83, .iconst 0, 84)) rfl
theorem c11_84 : pm_code 11 84 = some (.sipush 999, 87) := pm_of cl11_1 3 (q := (84, .sipush 999, 87)) rfl
theorem c11_87 : pm_code 11 87 = some (.invokevirtual 54, 90) := pm_of cl11_1 4 (q := (87, .invokevirtual 54, 90)) rfl
theorem c11_90 : pm_code 11 90 = some (.invokestatic 47, 93) := pm_of cl11_1 5 (q := (90, .invokestatic 47, 93)) rfl
theorem c11_93 : pm_code 11 93 = some (.aload_n 0, 94) := pm_of cl11_1 6 (q := (93, .aload_n 0, 94)) rfl
theorem c11_94 : pm_code 11 94 = some (.dup, 95) := pm_of cl11_1 7 (q := (94, .dup, 95)) rfl
theorem c11_95 : pm_code 11 95 = some (.getfield 18, 98) := pm_of cl11_1 8 (q := (95, .getfield 18, 98)) rfl
theorem c11_98 : pm_code 11 98 = some (.iconst 1, 99) := pm_of cl11_1 9 (q := (98, .iconst 1, 99)) rfl
theorem c11_99 : pm_code 11 99 = some (.iadd, 100) := pm_of cl11_1 10 (q := (99, .iadd, 100)) rfl
theorem c11_100 : pm_code 11 100 = some (.putfield 18, 103) := pm_of cl11_1 11 (q := (100, .putfield 18, 103)) rfl
theorem c11_103 : pm_code 11 103 = some (.aload_n 1, 104) := pm_of cl11_1 12 (q := (103, .aload_n 1, 104)) rfl
theorem c11_104 : pm_code 11 104 = some (.bipush 59, 106) := pm_of cl11_1 13 (q := (104, .bipush 59, 106)) rfl
theorem c11_106 : pm_code 11 106 = some (.invokevirtual 58, 109) := pm_of cl11_1 14 (q := (106, .invokevirtual 58, 109)) rfl
theorem c11_109 : pm_code 11 109 = some (.return_, 110) := pm_of cl11_1 15 (q := (109, .return_, 110)) rfl
theorem k12 : pm_k 12 = 1 := by decide +kernel
theorem ml12 : pm_ml 12 = 3 := by decide +kernel
theorem rt12 : pm_rt 12 = (some .boolean) := by decide +kernel
theorem hh12 : pm_hh 12 = [] := by decide +kernel
theorem rc12 : pm_cl 1 = (pm_y 12).cls := by decide +kernel
theorem cl12_0 : ([(0, .iconst 0, 1), (1, .istore_n 2, 2), (2, .iload_n 2, 3), (3, .aload_n 0, 4), (4, .getfield 18, 7), (7, .if_icmp .ge 23, 10), (10, .aload_n 0, 11), (11, .getfield 9, 14), (14, .iload_n 2, 15), (15, .invokestatic 62, 18), (18, .iload_n 1, 19), (19, .if_icmp .ne 5, 22), (22, .iconst 1, 23), (23, .ireturn, 24), (24, .iinc 2 1, 27), (27, .goto (-25), 30), (30, .iconst 0, 31), (31, .ireturn, 32)] : List (Nat × Instr × Nat)).all (fun q => decide (pm_code 12 q.1 = some q.2)) = true := by decide +kernel
theorem c12_0 : pm_code 12 0 = some (.iconst 0, 1) := pm_of cl12_0 0 (q := (0, .iconst 0, 1)) rfl
theorem c12_1 : pm_code 12 1 = some (.istore_n 2, 2) := pm_of cl12_0 1 (q := (1, .istore_n 2, 2)) rfl
theorem c12_2 : pm_code 12 2 = some (.iload_n 2, 3) := pm_of cl12_0 2 (q := (2, .iload_n 2, 3)) rfl
theorem c12_3 : pm_code 12 3 = some (.aload_n 0, 4) := pm_of cl12_0 3 (q := (3, .aload_n 0, 4)) rfl
theorem c12_4 : pm_code 12 4 = some (.getfield 18, 7) := pm_of cl12_0 4 (q := (4, .getfield 18, 7)) rfl
theorem c12_7 : pm_code 12 7 = some (.if_icmp .ge 23, 10) := pm_of cl12_0 5 (q := (7, .if_icmp .ge 23, 10)) rfl
theorem c12_10 : pm_code 12 10 = some (.aload_n 0, 11) := pm_of cl12_0 6 (q := (10, .aload_n 0, 11)) rfl
theorem c12_11 : pm_code 12 11 = some (.getfield 9, 14) := pm_of cl12_0 7 (q := (11, .getfield 9, 14)) rfl
theorem c12_14 : pm_code 12 14 = some (.iload_n 2, 15) := pm_of cl12_0 8 (q := (14, .iload_n 2, 15)) rfl
theorem c12_15 : pm_code 12 15 = some (.invokestatic 62, 18) := pm_of cl12_0 9 (q := (15, .invokestatic 62, 18)) rfl
theorem c12_18 : pm_code 12 18 = some (.iload_n 1, 19) := pm_of cl12_0 10 (q := (18, .iload_n 1, 19)) rfl
theorem c12_19 : pm_code 12 19 = some (.if_icmp .ne 5, 22) := pm_of cl12_0 11 (q := (19, .if_icmp .ne 5, 22)) rfl
theorem c12_22 : pm_code 12 22 = some (.iconst 1, 23) := pm_of cl12_0 12 (q := (22, .iconst 1, 23)) rfl
theorem c12_23 : pm_code 12 23 = some (.ireturn, 24) := pm_of cl12_0 13 (q := (23, .ireturn, 24)) rfl
theorem c12_24 : pm_code 12 24 = some (.iinc 2 1, 27) := pm_of cl12_0 14 (q := (24, .iinc 2 1, 27)) rfl
theorem c12_27 : pm_code 12 27 = some (.goto (-25), 30) := pm_of cl12_0 15 (q := (27, .goto (-25), 30)) rfl
theorem c12_30 : pm_code 12 30 = some (.iconst 0, 31) := pm_of cl12_0 16 (q := (30, .iconst 0, 31)) rfl
theorem c12_31 : pm_code 12 31 = some (.ireturn, 32) := pm_of cl12_0 17 (q := (31, .ireturn, 32)) rfl
theorem k13 : pm_k 13 = 1 := by decide +kernel
theorem ml13 : pm_ml 13 = 1 := by decide +kernel
theorem rt13 : pm_rt 13 = (some .int) := by decide +kernel
theorem hh13 : pm_hh 13 = [] := by decide +kernel
theorem rc13 : pm_cl 1 = (pm_y 13).cls := by decide +kernel
theorem cl13_0 : ([(0, .aload_n 0, 1), (1, .getfield 18, 4), (4, .ireturn, 5)] : List (Nat × Instr × Nat)).all (fun q => decide (pm_code 13 q.1 = some q.2)) = true := by decide +kernel
theorem c13_0 : pm_code 13 0 = some (.aload_n 0, 1) := pm_of cl13_0 0 (q := (0, .aload_n 0, 1)) rfl
theorem c13_1 : pm_code 13 1 = some (.getfield 18, 4) := pm_of cl13_0 1 (q := (1, .getfield 18, 4)) rfl
theorem c13_4 : pm_code 13 4 = some (.ireturn, 5) := pm_of cl13_0 2 (q := (4, .ireturn, 5)) rfl
theorem k14 : pm_k 14 = 1 := by decide +kernel
theorem ml14 : pm_ml 14 = 3 := by decide +kernel
theorem rt14 : pm_rt 14 = (some .boolean) := by decide +kernel
theorem hh14 : pm_hh 14 = [] := by decide +kernel
theorem rc14 : pm_cl 1 = (pm_y 14).cls := by decide +kernel
theorem cl14_0 : ([(0, .iconst 0, 1), (1, .istore_n 2, 2), (2, .iload_n 2, 3), (3, .aload_n 0, 4), (4, .getfield 18, 7), (7, .if_icmp .ge 36, 10), (10, .iconst 0, 11), (11, .iload_n 1, 12), (12, .aload_n 0, 13), (13, .getfield 9, 16), (16, .iload_n 2, 17), (17, .invokestatic 62, 20), (20, .isub, 21), (21, .invokestatic 66, 24), (24, .aload_n 0, 25), (25, .getfield 15, 28), (28, .iload_n 2, 29), (29, .invokestatic 62, 32), (32, .if_icmp .eq 5, 35), (35, .iconst 0, 36), (36, .ireturn, 37), (37, .iinc 2 1, 40), (40, .goto (-38), 43), (43, .iconst 1, 44), (44, .ireturn, 45)] : List (Nat × Instr × Nat)).all (fun q => decide (pm_code 14 q.1 = some q.2)) = true := by decide +kernel
theorem c14_0 : pm_code 14 0 = some (.iconst 0, 1) := pm_of cl14_0 0 (q := (0, .iconst 0, 1)) rfl
theorem c14_1 : pm_code 14 1 = some (.istore_n 2, 2) := pm_of cl14_0 1 (q := (1, .istore_n 2, 2)) rfl
theorem c14_2 : pm_code 14 2 = some (.iload_n 2, 3) := pm_of cl14_0 2 (q := (2, .iload_n 2, 3)) rfl
theorem c14_3 : pm_code 14 3 = some (.aload_n 0, 4) := pm_of cl14_0 3 (q := (3, .aload_n 0, 4)) rfl
theorem c14_4 : pm_code 14 4 = some (.getfield 18, 7) := pm_of cl14_0 4 (q := (4, .getfield 18, 7)) rfl
theorem c14_7 : pm_code 14 7 = some (.if_icmp .ge 36, 10) := pm_of cl14_0 5 (q := (7, .if_icmp .ge 36, 10)) rfl
theorem c14_10 : pm_code 14 10 = some (.iconst 0, 11) := pm_of cl14_0 6 (q := (10, .iconst 0, 11)) rfl
theorem c14_11 : pm_code 14 11 = some (.iload_n 1, 12) := pm_of cl14_0 7 (q := (11, .iload_n 1, 12)) rfl
theorem c14_12 : pm_code 14 12 = some (.aload_n 0, 13) := pm_of cl14_0 8 (q := (12, .aload_n 0, 13)) rfl
theorem c14_13 : pm_code 14 13 = some (.getfield 9, 16) := pm_of cl14_0 9 (q := (13, .getfield 9, 16)) rfl
theorem c14_16 : pm_code 14 16 = some (.iload_n 2, 17) := pm_of cl14_0 10 (q := (16, .iload_n 2, 17)) rfl
theorem c14_17 : pm_code 14 17 = some (.invokestatic 62, 20) := pm_of cl14_0 11 (q := (17, .invokestatic 62, 20)) rfl
theorem c14_20 : pm_code 14 20 = some (.isub, 21) := pm_of cl14_0 12 (q := (20, .isub, 21)) rfl
theorem c14_21 : pm_code 14 21 = some (.invokestatic 66, 24) := pm_of cl14_0 13 (q := (21, .invokestatic 66, 24)) rfl
theorem c14_24 : pm_code 14 24 = some (.aload_n 0, 25) := pm_of cl14_0 14 (q := (24, .aload_n 0, 25)) rfl
theorem c14_25 : pm_code 14 25 = some (.getfield 15, 28) := pm_of cl14_0 15 (q := (25, .getfield 15, 28)) rfl
theorem c14_28 : pm_code 14 28 = some (.iload_n 2, 29) := pm_of cl14_0 16 (q := (28, .iload_n 2, 29)) rfl
theorem c14_29 : pm_code 14 29 = some (.invokestatic 62, 32) := pm_of cl14_0 17 (q := (29, .invokestatic 62, 32)) rfl
theorem c14_32 : pm_code 14 32 = some (.if_icmp .eq 5, 35) := pm_of cl14_0 18 (q := (32, .if_icmp .eq 5, 35)) rfl
theorem c14_35 : pm_code 14 35 = some (.iconst 0, 36) := pm_of cl14_0 19 (q := (35, .iconst 0, 36)) rfl
theorem c14_36 : pm_code 14 36 = some (.ireturn, 37) := pm_of cl14_0 20 (q := (36, .ireturn, 37)) rfl
theorem c14_37 : pm_code 14 37 = some (.iinc 2 1, 40) := pm_of cl14_0 21 (q := (37, .iinc 2 1, 40)) rfl
theorem c14_40 : pm_code 14 40 = some (.goto (-38), 43) := pm_of cl14_0 22 (q := (40, .goto (-38), 43)) rfl
theorem c14_43 : pm_code 14 43 = some (.iconst 1, 44) := pm_of cl14_0 23 (q := (43, .iconst 1, 44)) rfl
theorem c14_44 : pm_code 14 44 = some (.ireturn, 45) := pm_of cl14_0 24 (q := (44, .ireturn, 45)) rfl
theorem k15 : pm_k 15 = 2 := by decide +kernel
theorem ml15 : pm_ml 15 = 1 := by decide +kernel
theorem rt15 : pm_rt 15 = none := by decide +kernel
theorem hh15 : pm_hh 15 = [] := by decide +kernel
theorem rc15 : pm_cl 2 = (pm_y 15).cls := by decide +kernel
theorem cl15_0 : ([(0, .aload_n 0, 1), (1, .invokespecial 3, 4), (4, .aload_n 0, 5), (5, .sipush 150, 8), (8, .newarray .int, 10), (10, .putfield 9, 13), (13, .aload_n 0, 14), (14, .bipush 32, 16), (16, .newarray .int, 18), (18, .putfield 15, 21), (21, .aload_n 0, 22), (22, .iconst 0, 23), (23, .putfield 18, 26), (26, .aload_n 0, 27), (27, .invokevirtual 22, 30), (30, .return_, 31)] : List (Nat × Instr × Nat)).all (fun q => decide (pm_code 15 q.1 = some q.2)) = true := by decide +kernel
theorem c15_0 : pm_code 15 0 = some (.aload_n 0, 1) := pm_of cl15_0 0 (q := (0, .aload_n 0, 1)) rfl
theorem c15_1 : pm_code 15 1 = some (.invokespecial 3, 4) := pm_of cl15_0 1 (q := (1, .invokespecial 3, 4)) rfl
theorem c15_4 : pm_code 15 4 = some (.aload_n 0, 5) := pm_of cl15_0 2 (q := (4, .aload_n 0, 5)) rfl
theorem c15_5 : pm_code 15 5 = some (.sipush 150, 8) := pm_of cl15_0 3 (q := (5, .sipush 150, 8)) rfl
theorem c15_8 : pm_code 15 8 = some (.newarray .int, 10) := pm_of cl15_0 4 (q := (8, .newarray .int, 10)) rfl
theorem c15_10 : pm_code 15 10 = some (.putfield 9, 13) := pm_of cl15_0 5 (q := (10, .putfield 9, 13)) rfl
theorem c15_13 : pm_code 15 13 = some (.aload_n 0, 14) := pm_of cl15_0 6 (q := (13, .aload_n 0, 14)) rfl
theorem c15_14 : pm_code 15 14 = some (.bipush 32, 16) := pm_of cl15_0 7 (q := (14, .bipush 32, 16)) rfl
theorem c15_16 : pm_code 15 16 = some (.newarray .int, 18) := pm_of cl15_0 8 (q := (16, .newarray .int, 18)) rfl
theorem c15_18 : pm_code 15 18 = some (.putfield 15, 21) := pm_of cl15_0 9 (q := (18, .putfield 15, 21)) rfl
theorem c15_21 : pm_code 15 21 = some (.aload_n 0, 22) := pm_of cl15_0 10 (q := (21, .aload_n 0, 22)) rfl
theorem c15_22 : pm_code 15 22 = some (.iconst 0, 23) := pm_of cl15_0 11 (q := (22, .iconst 0, 23)) rfl
theorem c15_23 : pm_code 15 23 = some (.putfield 18, 26) := pm_of cl15_0 12 (q := (23, .putfield 18, 26)) rfl
theorem c15_26 : pm_code 15 26 = some (.aload_n 0, 27) := pm_of cl15_0 13 (q := (26, .aload_n 0, 27)) rfl
theorem c15_27 : pm_code 15 27 = some (.invokevirtual 22, 30) := pm_of cl15_0 14 (q := (27, .invokevirtual 22, 30)) rfl
theorem c15_30 : pm_code 15 30 = some (.return_, 31) := pm_of cl15_0 15 (q := (30, .return_, 31)) rfl
theorem k16 : pm_k 16 = 2 := by decide +kernel
theorem ml16 : pm_ml 16 = 1 := by decide +kernel
theorem rt16 : pm_rt 16 = none := by decide +kernel
theorem hh16 : pm_hh 16 = [] := by decide +kernel
theorem rc16 : pm_cl 2 = (pm_y 16).cls := by decide +kernel
theorem cl16_0 : ([(0, .aload_n 0, 1), (1, .iconst 0, 2), (2, .putfield 18, 5), (5, .aload_n 0, 6), (6, .iconst 0, 7), (7, .invokevirtual 25, 10), (10, .aload_n 0, 11), (11, .bipush 66, 13), (13, .invokevirtual 25, 16), (16, .aload_n 0, 17), (17, .bipush 10, 19), (19, .invokevirtual 25, 22), (22, .aload_n 0, 23), (23, .iconst 1, 24), (24, .invokevirtual 25, 27), (27, .aload_n 0, 28), (28, .bipush 18, 30), (30, .invokevirtual 25, 33), (33, .aload_n 0, 34), (34, .bipush 10, 36), (36, .invokevirtual 25, 39), (39, .aload_n 0, 40), (40, .bipush 8, 42), (42, .invokevirtual 25, 45), (45, .return_, 46)] : List (Nat × Instr × Nat)).all (fun q => decide (pm_code 16 q.1 = some q.2)) = true := by decide +kernel
theorem c16_0 : pm_code 16 0 = some (.aload_n 0, 1) := pm_of cl16_0 0 (q := (0, .aload_n 0, 1)) rfl
theorem c16_1 : pm_code 16 1 = some (.iconst 0, 2) := pm_of cl16_0 1 (q := (1, .iconst 0, 2)) rfl
theorem c16_2 : pm_code 16 2 = some (.putfield 18, 5) := pm_of cl16_0 2 (q := (2, .putfield 18, 5)) rfl
theorem c16_5 : pm_code 16 5 = some (.aload_n 0, 6) := pm_of cl16_0 3 (q := (5, .aload_n 0, 6)) rfl
theorem c16_6 : pm_code 16 6 = some (.iconst 0, 7) := pm_of cl16_0 4 (q := (6, .iconst 0, 7)) rfl
theorem c16_7 : pm_code 16 7 = some (.invokevirtual 25, 10) := pm_of cl16_0 5 (q := (7, .invokevirtual 25, 10)) rfl
theorem c16_10 : pm_code 16 10 = some (.aload_n 0, 11) := pm_of cl16_0 6 (q := (10, .aload_n 0, 11)) rfl
theorem c16_11 : pm_code 16 11 = some (.bipush 66, 13) := pm_of cl16_0 7 (q := (11, .bipush 66, 13)) rfl
theorem c16_13 : pm_code 16 13 = some (.invokevirtual 25, 16) := pm_of cl16_0 8 (q := (13, .invokevirtual 25, 16)) rfl
theorem c16_16 : pm_code 16 16 = some (.aload_n 0, 17) := pm_of cl16_0 9 (q := (16, .aload_n 0, 17)) rfl
theorem c16_17 : pm_code 16 17 = some (.bipush 10, 19) := pm_of cl16_0 10 (q := (17, .bipush 10, 19)) rfl
theorem c16_19 : pm_code 16 19 = some (.invokevirtual 25, 22) := pm_of cl16_0 11 (q := (19, .invokevirtual 25, 22)) rfl
theorem c16_22 : pm_code 16 22 = some (.aload_n 0, 23) := pm_of cl16_0 12 (q := (22, .aload_n 0, 23)) rfl
theorem c16_23 : pm_code 16 23 = some (.iconst 1, 24) := pm_of cl16_0 13 (q := (23, .iconst 1, 24)) rfl
theorem c16_24 : pm_code 16 24 = some (.invokevirtual 25, 27) := pm_of cl16_0 14 (q := (24, .invokevirtual 25, 27)) rfl
theorem c16_27 : pm_code 16 27 = some (.aload_n 0, 28) := pm_of cl16_0 15 (q := (27, .aload_n 0, 28)) rfl
theorem c16_28 : pm_code 16 28 = some (.bipush 18, 30) := pm_of cl16_0 16 (q := (28, .bipush 18, 30)) rfl
theorem c16_30 : pm_code 16 30 = some (.invokevirtual 25, 33) := pm_of cl16_0 17 (q := (30, .invokevirtual 25, 33)) rfl
theorem c16_33 : pm_code 16 33 = some (.aload_n 0, 34) := pm_of cl16_0 18 (q := (33, .aload_n 0, 34)) rfl
theorem c16_34 : pm_code 16 34 = some (.bipush 10, 36) := pm_of cl16_0 19 (q := (34, .bipush 10, 36)) rfl
theorem c16_36 : pm_code 16 36 = some (.invokevirtual 25, 39) := pm_of cl16_0 20 (q := (36, .invokevirtual 25, 39)) rfl
theorem c16_39 : pm_code 16 39 = some (.aload_n 0, 40) := pm_of cl16_0 21 (q := (39, .aload_n 0, 40)) rfl
theorem c16_40 : pm_code 16 40 = some (.bipush 8, 42) := pm_of cl16_0 22 (q := (40, .bipush 8, 42)) rfl
theorem c16_42 : pm_code 16 42 = some (.invokevirtual 25, 45) := pm_of cl16_0 23 (q := (42, .invokevirtual 25, 45)) rfl
theorem c16_45 : pm_code 16 45 = some (.return_, 46) := pm_of cl16_0 24 (q := (45, .return_, 46)) rfl
theorem k17 : pm_k 17 = 2 := by decide +kernel
theorem ml17 : pm_ml 17 = 2 := by decide +kernel
theorem rt17 : pm_rt 17 = none := by decide +kernel
theorem hh17 : pm_hh 17 = [] := by decide +kernel
theorem rc17 : pm_cl 2 = (pm_y 17).cls := by decide +kernel
theorem cl17_0 : ([(0, .aload_n 0, 1), (1, .getfield 18, 4), (4, .aload_n 0, 5), (5, .getfield 9, 8), (8, .arraylength, 9), (9, .if_icmp .ge 25, 12), (12, .aload_n 0, 13), (13, .getfield 9, 16), (16, .aload_n 0, 17), (17, .getfield 18, 20), (20, .iload_n 1, 21), (21, .invokestatic 63, 24), (24, .aload_n 0, 25), (25, .dup, 26), (26, .getfield 18, 29), (29, .iconst 1, 30), (30, .iadd, 31), (31, .putfield 18, 34), (34, .return_, 35)] : List (Nat × Instr × Nat)).all (fun q => decide (pm_code 17 q.1 = some q.2)) = true := by decide +kernel
theorem c17_0 : pm_code 17 0 = some (.aload_n 0, 1) := pm_of cl17_0 0 (q := (0, .aload_n 0, 1)) rfl
theorem c17_1 : pm_code 17 1 = some (.getfield 18, 4) := pm_of cl17_0 1 (q := (1, .getfield 18, 4)) rfl
theorem c17_4 : pm_code 17 4 = some (.aload_n 0, 5) := pm_of cl17_0 2 (q := (4, .aload_n 0, 5)) rfl
theorem c17_5 : pm_code 17 5 = some (.getfield 9, 8) := pm_of cl17_0 3 (q := (5, .getfield 9, 8)) rfl
theorem c17_8 : pm_code 17 8 = some (.arraylength, 9) := pm_of cl17_0 4 (q := (8, .arraylength, 9)) rfl
theorem c17_9 : pm_code 17 9 = some (.if_icmp .ge 25, 12) := pm_of cl17_0 5 (q := (9, .if_icmp .ge 25, 12)) rfl
theorem c17_12 : pm_code 17 12 = some (.aload_n 0, 13) := pm_of cl17_0 6 (q := (12, .aload_n 0, 13)) rfl
theorem c17_13 : pm_code 17 13 = some (.getfield 9, 16) := pm_of cl17_0 7 (q := (13, .getfield 9, 16)) rfl
theorem c17_16 : pm_code 17 16 = some (.aload_n 0, 17) := pm_of cl17_0 8 (q := (16, .aload_n 0, 17)) rfl
theorem c17_17 : pm_code 17 17 = some (.getfield 18, 20) := pm_of cl17_0 9 (q := (17, .getfield 18, 20)) rfl
theorem c17_20 : pm_code 17 20 = some (.iload_n 1, 21) := pm_of cl17_0 10 (q := (20, .iload_n 1, 21)) rfl
theorem c17_21 : pm_code 17 21 = some (.invokestatic 63, 24) := pm_of cl17_0 11 (q := (21, .invokestatic 63, 24)) rfl
theorem c17_24 : pm_code 17 24 = some (.aload_n 0, 25) := pm_of cl17_0 12 (q := (24, .aload_n 0, 25)) rfl
theorem c17_25 : pm_code 17 25 = some (.dup, 26) := pm_of cl17_0 13 (q := (25, .dup, 26)) rfl
theorem c17_26 : pm_code 17 26 = some (.getfield 18, 29) := pm_of cl17_0 14 (q := (26, .getfield 18, 29)) rfl
theorem c17_29 : pm_code 17 29 = some (.iconst 1, 30) := pm_of cl17_0 15 (q := (29, .iconst 1, 30)) rfl
theorem c17_30 : pm_code 17 30 = some (.iadd, 31) := pm_of cl17_0 16 (q := (30, .iadd, 31)) rfl
theorem c17_31 : pm_code 17 31 = some (.putfield 18, 34) := pm_of cl17_0 17 (q := (31, .putfield 18, 34)) rfl
theorem c17_34 : pm_code 17 34 = some (.return_, 35) := pm_of cl17_0 18 (q := (34, .return_, 35)) rfl
theorem k18 : pm_k 18 = 2 := by decide +kernel
theorem ml18 : pm_ml 18 = 5 := by decide +kernel
theorem rt18 : pm_rt 18 = (some .int) := by decide +kernel
theorem hh18 : pm_hh 18 = [] := by decide +kernel
theorem rc18 : pm_cl 2 = (pm_y 18).cls := by decide +kernel
theorem cl18_0 : ([(0, .iconst 0, 1), (1, .istore_n 2, 2), (2, .iconst 0, 3), (3, .istore_n 3, 4), (4, .iload_n 3, 5), (5, .aload_n 0, 6), (6, .getfield 18, 9), (9, .if_icmp .ge 132, 12), (12, .iload_n 3, 13), (13, .aload_n 0, 14), (14, .getfield 9, 17), (17, .arraylength, 18), (18, .if_icmp .ge 123, 21), (21, .aload_n 0, 22), (22, .getfield 9, 25), (25, .iload_n 3, 26), (26, .iaload, 27), (27, .istore 4, 29), (29, .iload 4, 31), (31, .bipush 8, 33), (33, .if_icmp .lt 59, 36), (36, .iload 4, 38), (38, .bipush 14, 40), (40, .if_icmp .ge 52, 43), (43, .iload_n 2, 44), (44, .iconst 2, 45), (45, .if_icmp .lt 90, 48), (48, .iload_n 2, 49), (49, .aload_n 0, 50), (50, .getfield 15, 53), (53, .arraylength, 54), (54, .if_icmp .gt 81, 57), (57, .aload_n 0, 58), (58, .getfield 15, 61), (61, .iload_n 2, 62), (62, .iconst 2, 63), (63, .isub, 64), (64, .iload 4, 66), (66, .aload_n 0, 67), (67, .getfield 15, 70)] : List (Nat × Instr × Nat)).all (fun q => decide (pm_code 18 q.1 = some q.2)) = true := by decide +kernel
theorem c18_0 : pm_code 18 0 = some (.iconst 0, 1) := pm_of cl18_0 0 (q := (0, .iconst 0, 1)) rfl
theorem c18_1 : pm_code 18 1 = some (.istore_n 2, 2) := pm_of cl18_0 1 (q := (1, .istore_n 2, 2)) rfl
theorem c18_2 : pm_code 18 2 = some (.iconst 0, 3) := pm_of cl18_0 2 (q := (2, .iconst 0, 3)) rfl
theorem c18_3 : pm_code 18 3 = some (.istore_n 3, 4) := pm_of cl18_0 3 (q := (3, .istore_n 3, 4)) rfl
theorem c18_4 : pm_code 18 4 = some (.iload_n 3, 5) := pm_of cl18_0 4 (q := (4, .iload_n 3, 5)) rfl
theorem c18_5 : pm_code 18 5 = some (.aload_n 0, 6) := pm_of cl18_0 5 (q := (5, .aload_n 0, 6)) rfl
theorem c18_6 : pm_code 18 6 = some (.getfield 18, 9) := pm_of cl18_0 6 (q := (6, .getfield 18, 9)) rfl
theorem c18_9 : pm_code 18 9 = some (.if_icmp .ge 132, 12) := pm_of cl18_0 7 (q := (9, .if_icmp .ge 132, 12)) rfl
theorem c18_12 : pm_code 18 12 = some (.iload_n 3, 13) := pm_of cl18_0 8 (q := (12, .iload_n 3, 13)) rfl
theorem c18_13 : pm_code 18 13 = some (.aload_n 0, 14) := pm_of cl18_0 9 (q := (13, .aload_n 0, 14)) rfl
theorem c18_14 : pm_code 18 14 = some (.getfield 9, 17) := pm_of cl18_0 10 (q := (14, .getfield 9, 17)) rfl
theorem c18_17 : pm_code 18 17 = some (.arraylength, 18) := pm_of cl18_0 11 (q := (17, .arraylength, 18)) rfl
theorem c18_18 : pm_code 18 18 = some (.if_icmp .ge 123, 21) := pm_of cl18_0 12 (q := (18, .if_icmp .ge 123, 21)) rfl
theorem c18_21 : pm_code 18 21 = some (.aload_n 0, 22) := pm_of cl18_0 13 (q := (21, .aload_n 0, 22)) rfl
theorem c18_22 : pm_code 18 22 = some (.getfield 9, 25) := pm_of cl18_0 14 (q := (22, .getfield 9, 25)) rfl
theorem c18_25 : pm_code 18 25 = some (.iload_n 3, 26) := pm_of cl18_0 15 (q := (25, .iload_n 3, 26)) rfl
theorem c18_26 : pm_code 18 26 = some (.iaload, 27) := pm_of cl18_0 16 (q := (26, .iaload, 27)) rfl
theorem c18_27 : pm_code 18 27 = some (.istore 4, 29) := pm_of cl18_0 17 (q := (27, .istore 4, 29)) rfl
theorem c18_29 : pm_code 18 29 = some (.iload 4, 31) := pm_of cl18_0 18 (q := (29, .iload 4, 31)) rfl
theorem c18_31 : pm_code 18 31 = some (.bipush 8, 33) := pm_of cl18_0 19 (q := (31, .bipush 8, 33)) rfl
theorem c18_33 : pm_code 18 33 = some (.if_icmp .lt 59, 36) := pm_of cl18_0 20 (q := (33, .if_icmp .lt 59, 36)) rfl
theorem c18_36 : pm_code 18 36 = some (.iload 4, 38) := pm_of cl18_0 21 (q := (36, .iload 4, 38)) rfl
theorem c18_38 : pm_code 18 38 = some (.bipush 14, 40) := pm_of cl18_0 22 (q := (38, .bipush 14, 40)) rfl
theorem c18_40 : pm_code 18 40 = some (.if_icmp .ge 52, 43) := pm_of cl18_0 23 (q := (40, .if_icmp .ge 52, 43)) rfl
theorem c18_43 : pm_code 18 43 = some (.iload_n 2, 44) := pm_of cl18_0 24 (q := (43, .iload_n 2, 44)) rfl
theorem c18_44 : pm_code 18 44 = some (.iconst 2, 45) := pm_of cl18_0 25 (q := (44, .iconst 2, 45)) rfl
theorem c18_45 : pm_code 18 45 = some (.if_icmp .lt 90, 48) := pm_of cl18_0 26 (q := (45, .if_icmp .lt 90, 48)) rfl
theorem c18_48 : pm_code 18 48 = some (.iload_n 2, 49) := pm_of cl18_0 27 (q := (48, .iload_n 2, 49)) rfl
theorem c18_49 : pm_code 18 49 = some (.aload_n 0, 50) := pm_of cl18_0 28 (q := (49, .aload_n 0, 50)) rfl
theorem c18_50 : pm_code 18 50 = some (.getfield 15, 53) := pm_of cl18_0 29 (q := (50, .getfield 15, 53)) rfl
theorem c18_53 : pm_code 18 53 = some (.arraylength, 54) := pm_of cl18_0 30 (q := (53, .arraylength, 54)) rfl
theorem c18_54 : pm_code 18 54 = some (.if_icmp .gt 81, 57) := pm_of cl18_0 31 (q := (54, .if_icmp .gt 81, 57)) rfl
theorem c18_57 : pm_code 18 57 = some (.aload_n 0, 58) := pm_of cl18_0 32 (q := (57, .aload_n 0, 58)) rfl
theorem c18_58 : pm_code 18 58 = some (.getfield 15, 61) := pm_of cl18_0 33 (q := (58, .getfield 15, 61)) rfl
theorem c18_61 : pm_code 18 61 = some (.iload_n 2, 62) := pm_of cl18_0 34 (q := (61, .iload_n 2, 62)) rfl
theorem c18_62 : pm_code 18 62 = some (.iconst 2, 63) := pm_of cl18_0 35 (q := (62, .iconst 2, 63)) rfl
theorem c18_63 : pm_code 18 63 = some (.isub, 64) := pm_of cl18_0 36 (q := (63, .isub, 64)) rfl
theorem c18_64 : pm_code 18 64 = some (.iload 4, 66) := pm_of cl18_0 37 (q := (64, .iload 4, 66)) rfl
theorem c18_66 : pm_code 18 66 = some (.aload_n 0, 67) := pm_of cl18_0 38 (q := (66, .aload_n 0, 67)) rfl
theorem c18_67 : pm_code 18 67 = some (.getfield 15, 70) := pm_of cl18_0 39 (q := (67, .getfield 15, 70)) rfl
theorem cl18_1 : ([(70, .iload_n 2, 71), (71, .iconst 2, 72), (72, .isub, 73), (73, .iaload, 74), (74, .aload_n 0, 75), (75, .getfield 15, 78), (78, .iload_n 2, 79), (79, .iconst 1, 80), (80, .isub, 81), (81, .iaload, 82), (82, .invokestatic 33, 85), (85, .iastore, 86), (86, .iinc 2 (-1), 89), (89, .goto 46, 92), (92, .iload_n 2, 93), (93, .ifCond .lt 42, 96), (96, .iload_n 2, 97), (97, .aload_n 0, 98), (98, .getfield 15, 101), (101, .arraylength, 102), (102, .if_icmp .ge 33, 105), (105, .aload_n 0, 106), (106, .getfield 15, 109), (109, .iload_n 2, 110), (110, .iload 4, 112), (112, .bipush 14, 114), (114, .if_icmp .lt 11, 117), (117, .iload 4, 119), (119, .bipush 14, 121), (121, .isub, 122), (122, .goto 9, 125), (125, .aload_n 1, 126), (126, .iload 4, 128), (128, .invokestatic 37, 131), (131, .iastore, 132), (132, .iinc 2 1, 135), (135, .iinc 3 1, 138), (138, .goto (-134), 141), (141, .iconst 0, 142), (142, .sipush 999, 145)] : List (Nat × Instr × Nat)).all (fun q => decide (pm_code 18 q.1 = some q.2)) = true := by decide +kernel
theorem c18_70 : pm_code 18 70 = some (.iload_n 2, 71) := pm_of cl18_1 0 (q := (70, .iload_n 2, 71)) rfl
theorem c18_71 : pm_code 18 71 = some (.iconst 2, 72) := pm_of cl18_1 1 (q := (71, .iconst 2, 72)) rfl
theorem c18_72 : pm_code 18 72 = some (.isub, 73) := pm_of cl18_1 2 (q := (72, .isub, 73)) rfl
theorem c18_73 : pm_code 18 73 = some (.iaload, 74) := pm_of cl18_1 3 (q := (73, .iaload, 74)) rfl
theorem c18_74 : pm_code 18 74 = some (.aload_n 0, 75) := pm_of cl18_1 4 (q := (74, .aload_n 0, 75)) rfl
theorem c18_75 : pm_code 18 75 = some (.getfield 15, 78) := pm_of cl18_1 5 (q := (75, .getfield 15, 78)) rfl
theorem c18_78 : pm_code 18 78 = some (.iload_n 2, 79) := pm_of cl18_1 6 (q := (78, .iload_n 2, 79)) rfl
theorem c18_79 : pm_code 18 79 = some (.iconst 1, 80) := pm_of cl18_1 7 (q := (79, .iconst 1, 80)) rfl
theorem c18_80 : pm_code 18 80 = some (.isub, 81) := pm_of cl18_1 8 (q := (80, .isub, 81)) rfl
theorem c18_81 : pm_code 18 81 = some (.iaload, 82) := pm_of cl18_1 9 (q := (81, .iaload, 82)) rfl
theorem c18_82 : pm_code 18 82 = some (.invokestatic 33, 85) := pm_of cl18_1 10 (q := (82, .invokestatic 33, 85)) rfl
theorem c18_85 : pm_code 18 85 = some (.iastore, 86) := pm_of cl18_1 11 (q := (85, .iastore, 86)) rfl
theorem c18_86 : pm_code 18 86 = some (.iinc 2 (-1), 89) := pm_of cl18_1 12 (q := (86, .iinc 2 (-1), 89)) rfl
theorem c18_89 : pm_code 18 89 = some (.goto 46, 92) := pm_of cl18_1 13 (q := (89, .goto 46, 92)) rfl
theorem c18_92 : pm_code 18 92 = some (.iload_n 2, 93) := pm_of cl18_1 14 (q := (92, .iload_n 2, 93)) rfl
theorem c18_93 : pm_code 18 93 = some (.ifCond .lt 42, 96) := pm_of cl18_1 15 (q := (93, .ifCond .lt 42, 96)) rfl
theorem c18_96 : pm_code 18 96 = some (.iload_n 2, 97) := pm_of cl18_1 16 (q := (96, .iload_n 2, 97)) rfl
theorem c18_97 : pm_code 18 97 = some (.aload_n 0, 98) := pm_of cl18_1 17 (q := (97, .aload_n 0, 98)) rfl
theorem c18_98 : pm_code 18 98 = some (.getfield 15, 101) := pm_of cl18_1 18 (q := (98, .getfield 15, 101)) rfl
theorem c18_101 : pm_code 18 101 = some (.arraylength, 102) := pm_of cl18_1 19 (q := (101, .arraylength, 102)) rfl
theorem c18_102 : pm_code 18 102 = some (.if_icmp .ge 33, 105) := pm_of cl18_1 20 (q := (102, .if_icmp .ge 33, 105)) rfl
theorem c18_105 : pm_code 18 105 = some (.aload_n 0, 106) := pm_of cl18_1 21 (q := (105, .aload_n 0, 106)) rfl
theorem c18_106 : pm_code 18 106 = some (.getfield 15, 109) := pm_of cl18_1 22 (q := (106, .getfield 15, 109)) rfl
theorem c18_109 : pm_code 18 109 = some (.iload_n 2, 110) := pm_of cl18_1 23 (q := (109, .iload_n 2, 110)) rfl
theorem c18_110 : pm_code 18 110 = some (.iload 4, 112) := pm_of cl18_1 24 (q := (110, .iload 4, 112)) rfl
theorem c18_112 : pm_code 18 112 = some (.bipush 14, 114) := pm_of cl18_1 25 (q := (112, .bipush 14, 114)) rfl
theorem c18_114 : pm_code 18 114 = some (.if_icmp .lt 11, 117) := pm_of cl18_1 26 (q := (114, .if_icmp .lt 11, 117)) rfl
theorem c18_117 : pm_code 18 117 = some (.iload 4, 119) := pm_of cl18_1 27 (q := (117, .iload 4, 119)) rfl
theorem c18_119 : pm_code 18 119 = some (.bipush 14, 121) := pm_of cl18_1 28 (q := (119, .bipush 14, 121)) rfl
theorem c18_121 : pm_code 18 121 = some (.isub, 122) := pm_of cl18_1 29 (q := (121, .isub, 122)) rfl
theorem c18_122 : pm_code 18 122 = some (.goto 9, 125) := pm_of cl18_1 30 (q := (122, .goto 9, 125)) rfl
theorem c18_125 : pm_code 18 125 = some (.aload_n 1, 126) := pm_of cl18_1 31 (q := (125, .aload_n 1, 126)) rfl
theorem c18_126 : pm_code 18 126 = some (.iload 4, 128) := pm_of cl18_1 32 (q := (126, .iload 4, 128)) rfl
theorem c18_128 : pm_code 18 128 = some (.invokestatic 37, 131) := pm_of cl18_1 33 (q := (128, .invokestatic 37, 131)) rfl
theorem c18_131 : pm_code 18 131 = some (.iastore, 132) := pm_of cl18_1 34 (q := (131, .iastore, 132)) rfl
theorem c18_132 : pm_code 18 132 = some (.iinc 2 1, 135) := pm_of cl18_1 35 (q := (132, .iinc 2 1, 135)) rfl
theorem c18_135 : pm_code 18 135 = some (.iinc 3 1, 138) := pm_of cl18_1 36 (q := (135, .iinc 3 1, 138)) rfl
theorem c18_138 : pm_code 18 138 = some (.goto (-134), 141) := pm_of cl18_1 37 (q := (138, .goto (-134), 141)) rfl
theorem c18_141 : pm_code 18 141 = some (.iconst 0, 142) := pm_of cl18_1 38 (q := (141, .iconst 0, 142)) rfl
theorem c18_142 : pm_code 18 142 = some (.sipush 999, 145) := pm_of cl18_1 39 (q := (142, .sipush 999, 145)) rfl
theorem cl18_2 : ([(145, .aload_n 0, 146), (146, .getfield 15, 149), (149, .iconst 0, 150), (150, .invokestatic 37, 153), (153, .invokestatic 41, 156), (156, .invokestatic 47, 159), (159, .ireturn, 160)] : List (Nat × Instr × Nat)).all (fun q => decide (pm_code 18 q.1 = some q.2)) = true := by decide +kernel
theorem c18_145 : pm_code 18 145 = some (.aload_n 0, 146) := pm_of cl18_2 0 (q := (145, .aload_n 0, 146)) rfl
theorem c18_146 : pm_code 18 146 = some (.getfield 15, 149) := pm_of cl18_2 1 (q := (146, .getfield 15, 149)) rfl
theorem c18_149 : pm_code 18 149 = some (.iconst 0, 150) := pm_of cl18_2 2 (q := (149, .iconst 0, 150)) rfl
theorem c18_150 : pm_code 18 150 = some (.invokestatic 37, 153) := pm_of cl18_2 3 (q := (150, .invokestatic 37, 153)) rfl
theorem c18_153 : pm_code 18 153 = some (.invokestatic 41, 156) := pm_of cl18_2 4 (q := (153, .invokestatic 41, 156)) rfl
theorem c18_156 : pm_code 18 156 = some (.invokestatic 47, 159) := pm_of cl18_2 5 (q := (156, .invokestatic 47, 159)) rfl
theorem c18_159 : pm_code 18 159 = some (.ireturn, 160) := pm_of cl18_2 6 (q := (159, .ireturn, 160)) rfl
theorem k19 : pm_k 19 = 2 := by decide +kernel
theorem ml19 : pm_ml 19 = 3 := by decide +kernel
theorem rt19 : pm_rt 19 = (some .int) := by decide +kernel
theorem hh19 : pm_hh 19 = [] := by decide +kernel
theorem rc19 : pm_cl 2 = (pm_y 19).cls := by decide +kernel
theorem cl19_0 : ([(0, .iload_n 0, 1), (1, .tableswitch 65 8 12 #[35, 39, 43, 47, 59], 36), (36, .iload_n 1, 37), (37, .iload_n 2, 38), (38, .iadd, 39), (39, .ireturn, 40), (40, .iload_n 1, 41), (41, .iload_n 2, 42), (42, .isub, 43), (43, .ireturn, 44), (44, .iload_n 1, 45), (45, .iload_n 2, 46), (46, .imul, 47), (47, .ireturn, 48), (48, .iload_n 2, 49), (49, .ifCond .ne 7, 52), (52, .iconst 0, 53), (53, .goto 6, 56), (56, .iload_n 1, 57), (57, .iload_n 2, 58), (58, .idiv, 59), (59, .ireturn, 60), (60, .iload_n 1, 61), (61, .iload_n 2, 62), (62, .invokestatic 41, 65), (65, .ireturn, 66), (66, .iload_n 1, 67), (67, .iload_n 2, 68), (68, .invokestatic 47, 71), (71, .ireturn, 72)] : List (Nat × Instr × Nat)).all (fun q => decide (pm_code 19 q.1 = some q.2)) = true := by decide +kernel
theorem c19_0 : pm_code 19 0 = some (.iload_n 0, 1) := pm_of cl19_0 0 (q := (0, .iload_n 0, 1)) rfl
theorem c19_1 : pm_code 19 1 = some (.tableswitch 65 8 12 #[35, 39, 43, 47, 59], 36) := pm_of cl19_0 1 (q := (1, .tableswitch 65 8 12 #[35, 39, 43, 47, 59], 36)) rfl
theorem c19_36 : pm_code 19 36 = some (.iload_n 1, 37) := pm_of cl19_0 2 (q := (36, .iload_n 1, 37)) rfl
theorem c19_37 : pm_code 19 37 = some (.iload_n 2, 38) := pm_of cl19_0 3 (q := (37, .iload_n 2, 38)) rfl
theorem c19_38 : pm_code 19 38 = some (.iadd, 39) := pm_of cl19_0 4 (q := (38, .iadd, 39)) rfl
theorem c19_39 : pm_code 19 39 = some (.ireturn, 40) := pm_of cl19_0 5 (q := (39, .ireturn, 40)) rfl
theorem c19_40 : pm_code 19 40 = some (.iload_n 1, 41) := pm_of cl19_0 6 (q := (40, .iload_n 1, 41)) rfl
theorem c19_41 : pm_code 19 41 = some (.iload_n 2, 42) := pm_of cl19_0 7 (q := (41, .iload_n 2, 42)) rfl
theorem c19_42 : pm_code 19 42 = some (.isub, 43) := pm_of cl19_0 8 (q := (42, .isub, 43)) rfl
theorem c19_43 : pm_code 19 43 = some (.ireturn, 44) := pm_of cl19_0 9 (q := (43, .ireturn, 44)) rfl
theorem c19_44 : pm_code 19 44 = some (.iload_n 1, 45) := pm_of cl19_0 10 (q := (44, .iload_n 1, 45)) rfl
theorem c19_45 : pm_code 19 45 = some (.iload_n 2, 46) := pm_of cl19_0 11 (q := (45, .iload_n 2, 46)) rfl
theorem c19_46 : pm_code 19 46 = some (.imul, 47) := pm_of cl19_0 12 (q := (46, .imul, 47)) rfl
theorem c19_47 : pm_code 19 47 = some (.ireturn, 48) := pm_of cl19_0 13 (q := (47, .ireturn, 48)) rfl
theorem c19_48 : pm_code 19 48 = some (.iload_n 2, 49) := pm_of cl19_0 14 (q := (48, .iload_n 2, 49)) rfl
theorem c19_49 : pm_code 19 49 = some (.ifCond .ne 7, 52) := pm_of cl19_0 15 (q := (49, .ifCond .ne 7, 52)) rfl
theorem c19_52 : pm_code 19 52 = some (.iconst 0, 53) := pm_of cl19_0 16 (q := (52, .iconst 0, 53)) rfl
theorem c19_53 : pm_code 19 53 = some (.goto 6, 56) := pm_of cl19_0 17 (q := (53, .goto 6, 56)) rfl
theorem c19_56 : pm_code 19 56 = some (.iload_n 1, 57) := pm_of cl19_0 18 (q := (56, .iload_n 1, 57)) rfl
theorem c19_57 : pm_code 19 57 = some (.iload_n 2, 58) := pm_of cl19_0 19 (q := (57, .iload_n 2, 58)) rfl
theorem c19_58 : pm_code 19 58 = some (.idiv, 59) := pm_of cl19_0 20 (q := (58, .idiv, 59)) rfl
theorem c19_59 : pm_code 19 59 = some (.ireturn, 60) := pm_of cl19_0 21 (q := (59, .ireturn, 60)) rfl
theorem c19_60 : pm_code 19 60 = some (.iload_n 1, 61) := pm_of cl19_0 22 (q := (60, .iload_n 1, 61)) rfl
theorem c19_61 : pm_code 19 61 = some (.iload_n 2, 62) := pm_of cl19_0 23 (q := (61, .iload_n 2, 62)) rfl
theorem c19_62 : pm_code 19 62 = some (.invokestatic 41, 65) := pm_of cl19_0 24 (q := (62, .invokestatic 41, 65)) rfl
theorem c19_65 : pm_code 19 65 = some (.ireturn, 66) := pm_of cl19_0 25 (q := (65, .ireturn, 66)) rfl
theorem c19_66 : pm_code 19 66 = some (.iload_n 1, 67) := pm_of cl19_0 26 (q := (66, .iload_n 1, 67)) rfl
theorem c19_67 : pm_code 19 67 = some (.iload_n 2, 68) := pm_of cl19_0 27 (q := (67, .iload_n 2, 68)) rfl
theorem c19_68 : pm_code 19 68 = some (.invokestatic 47, 71) := pm_of cl19_0 28 (q := (68, .invokestatic 47, 71)) rfl
theorem c19_71 : pm_code 19 71 = some (.ireturn, 72) := pm_of cl19_0 29 (q := (71, .ireturn, 72)) rfl
theorem k20 : pm_k 20 = 2 := by decide +kernel
theorem ml20 : pm_ml 20 = 2 := by decide +kernel
theorem rt20 : pm_rt 20 = none := by decide +kernel
theorem hh20 : pm_hh 20 = [] := by decide +kernel
theorem rc20 : pm_cl 2 = (pm_y 20).cls := by decide +kernel
theorem cl20_0 : ([(0, .aload_n 0, 1), (1, .iconst 0, 2), (2, .putfield 18, 5), (5, .aload_n 0, 6), (6, .aload_n 1, 7), (7, .iconst 0, 8), (8, .invokevirtual 50, 11), (11, .aload_n 1, 12), (12, .invokevirtual 54, 15), (15, .ifCond .eq 8, 18), (18, .aload_n 1, 19), (19, .iconst 1, 20), (20, .invokevirtual 60, 23), (23, .return_, 24)] : List (Nat × Instr × Nat)).all (fun q => decide (pm_code 20 q.1 = some q.2)) = true := by decide +kernel
theorem c20_0 : pm_code 20 0 = some (.aload_n 0, 1) := pm_of cl20_0 0 (q := (0, .aload_n 0, 1)) rfl
theorem c20_1 : pm_code 20 1 = some (.iconst 0, 2) := pm_of cl20_0 1 (q := (1, .iconst 0, 2)) rfl
theorem c20_2 : pm_code 20 2 = some (.putfield 18, 5) := pm_of cl20_0 2 (q := (2, .putfield 18, 5)) rfl
theorem c20_5 : pm_code 20 5 = some (.aload_n 0, 6) := pm_of cl20_0 3 (q := (5, .aload_n 0, 6)) rfl
theorem c20_6 : pm_code 20 6 = some (.aload_n 1, 7) := pm_of cl20_0 4 (q := (6, .aload_n 1, 7)) rfl
theorem c20_7 : pm_code 20 7 = some (.iconst 0, 8) := pm_of cl20_0 5 (q := (7, .iconst 0, 8)) rfl
theorem c20_8 : pm_code 20 8 = some (.invokevirtual 50, 11) := pm_of cl20_0 6 (q := (8, .invokevirtual 50, 11)) rfl
theorem c20_11 : pm_code 20 11 = some (.aload_n 1, 12) := pm_of cl20_0 7 (q := (11, .aload_n 1, 12)) rfl
theorem c20_12 : pm_code 20 12 = some (.invokevirtual 54, 15) := pm_of cl20_0 8 (q := (12, .invokevirtual 54, 15)) rfl
theorem c20_15 : pm_code 20 15 = some (.ifCond .eq 8, 18) := pm_of cl20_0 9 (q := (15, .ifCond .eq 8, 18)) rfl
theorem c20_18 : pm_code 20 18 = some (.aload_n 1, 19) := pm_of cl20_0 10 (q := (18, .aload_n 1, 19)) rfl
theorem c20_19 : pm_code 20 19 = some (.iconst 1, 20) := pm_of cl20_0 11 (q := (19, .iconst 1, 20)) rfl
theorem c20_20 : pm_code 20 20 = some (.invokevirtual 60, 23) := pm_of cl20_0 12 (q := (20, .invokevirtual 60, 23)) rfl
theorem c20_23 : pm_code 20 23 = some (.return_, 24) := pm_of cl20_0 13 (q := (23, .return_, 24)) rfl
theorem k21 : pm_k 21 = 2 := by decide +kernel
theorem ml21 : pm_ml 21 = 5 := by decide +kernel
theorem rt21 : pm_rt 21 = none := by decide +kernel
theorem hh21 : pm_hh 21 = [] := by decide +kernel
theorem rc21 : pm_cl 2 = (pm_y 21).cls := by decide +kernel
theorem cl21_0 : ([(0, .aload_n 0, 1), (1, .aload_n 1, 2), (2, .iload_n 2, 3), (3, .invokevirtual 67, 6), (6, .iconst 0, 7), (7, .istore_n 3, 8), (8, .iload_n 3, 9), (9, .sipush 150, 12), (12, .if_icmp .ge 61, 15), (15, .aload_n 1, 16), (16, .bipush 43, 18), (18, .invokevirtual 70, 21), (21, .ifCond .ne 12, 24), (24, .aload_n 1, 25), (25, .bipush 45, 27), (27, .invokevirtual 70, 30), (30, .ifCond .eq 43, 33), (33, .aload_n 1, 34), (34, .bipush 43, 36), (36, .invokevirtual 70, 39), (39, .ifCond .eq 8, 42), (42, .bipush 8, 44), (44, .goto 5, 47), (47, .bipush 9, 49), (49, .istore 4, 51), (51, .aload_n 1, 52), (52, .invokevirtual 74, 55), (55, .aload_n 0, 56), (56, .aload_n 1, 57), (57, .iload_n 2, 58), (58, .invokevirtual 67, 61), (61, .aload_n 0, 62), (62, .iload 4, 64), (64, .invokevirtual 25, 67), (67, .iinc 3 1, 70), (70, .goto (-62), 73), (73, .return_, 74)] : List (Nat × Instr × Nat)).all (fun q => decide (pm_code 21 q.1 = some q.2)) = true := by decide +kernel
theorem c21_0 : pm_code 21 0 = some (.aload_n 0, 1) := pm_of cl21_0 0 (q := (0, .aload_n 0, 1)) rfl
theorem c21_1 : pm_code 21 1 = some (.aload_n 1, 2) := pm_of cl21_0 1 (q := (1, .aload_n 1, 2)) rfl
theorem c21_2 : pm_code 21 2 = some (.iload_n 2, 3) := pm_of cl21_0 2 (q := (2, .iload_n 2, 3)) rfl
theorem c21_3 : pm_code 21 3 = some (.invokevirtual 67, 6) := pm_of cl21_0 3 (q := (3, .invokevirtual 67, 6)) rfl
theorem c21_6 : pm_code 21 6 = some (.iconst 0, 7) := pm_of cl21_0 4 (q := (6, .iconst 0, 7)) rfl
theorem c21_7 : pm_code 21 7 = some (.istore_n 3, 8) := pm_of cl21_0 5 (q := (7, .istore_n 3, 8)) rfl
theorem c21_8 : pm_code 21 8 = some (.iload_n 3, 9) := pm_of cl21_0 6 (q := (8, .iload_n 3, 9)) rfl
theorem c21_9 : pm_code 21 9 = some (.sipush 150, 12) := pm_of cl21_0 7 (q := (9, .sipush 150, 12)) rfl
theorem c21_12 : pm_code 21 12 = some (.if_icmp .ge 61, 15) := pm_of cl21_0 8 (q := (12, .if_icmp .ge 61, 15)) rfl
theorem c21_15 : pm_code 21 15 = some (.aload_n 1, 16) := pm_of cl21_0 9 (q := (15, .aload_n 1, 16)) rfl
theorem c21_16 : pm_code 21 16 = some (.bipush 43, 18) := pm_of cl21_0 10 (q := (16, .bipush 43, 18)) rfl
theorem c21_18 : pm_code 21 18 = some (.invokevirtual 70, 21) := pm_of cl21_0 11 (q := (18, .invokevirtual 70, 21)) rfl
theorem c21_21 : pm_code 21 21 = some (.ifCond .ne 12, 24) := pm_of cl21_0 12 (q := (21, .ifCond .ne 12, 24)) rfl
theorem c21_24 : pm_code 21 24 = some (.aload_n 1, 25) := pm_of cl21_0 13 (q := (24, .aload_n 1, 25)) rfl
theorem c21_25 : pm_code 21 25 = some (.bipush 45, 27) := pm_of cl21_0 14 (q := (25, .bipush 45, 27)) rfl
theorem c21_27 : pm_code 21 27 = some (.invokevirtual 70, 30) := pm_of cl21_0 15 (q := (27, .invokevirtual 70, 30)) rfl
theorem c21_30 : pm_code 21 30 = some (.ifCond .eq 43, 33) := pm_of cl21_0 16 (q := (30, .ifCond .eq 43, 33)) rfl
theorem c21_33 : pm_code 21 33 = some (.aload_n 1, 34) := pm_of cl21_0 17 (q := (33, .aload_n 1, 34)) rfl
theorem c21_34 : pm_code 21 34 = some (.bipush 43, 36) := pm_of cl21_0 18 (q := (34, .bipush 43, 36)) rfl
theorem c21_36 : pm_code 21 36 = some (.invokevirtual 70, 39) := pm_of cl21_0 19 (q := (36, .invokevirtual 70, 39)) rfl
theorem c21_39 : pm_code 21 39 = some (.ifCond .eq 8, 42) := pm_of cl21_0 20 (q := (39, .ifCond .eq 8, 42)) rfl
theorem c21_42 : pm_code 21 42 = some (.bipush 8, 44) := pm_of cl21_0 21 (q := (42, .bipush 8, 44)) rfl
theorem c21_44 : pm_code 21 44 = some (.goto 5, 47) := pm_of cl21_0 22 (q := (44, .goto 5, 47)) rfl
theorem c21_47 : pm_code 21 47 = some (.bipush 9, 49) := pm_of cl21_0 23 (q := (47, .bipush 9, 49)) rfl
theorem c21_49 : pm_code 21 49 = some (.istore 4, 51) := pm_of cl21_0 24 (q := (49, .istore 4, 51)) rfl
theorem c21_51 : pm_code 21 51 = some (.aload_n 1, 52) := pm_of cl21_0 25 (q := (51, .aload_n 1, 52)) rfl
theorem c21_52 : pm_code 21 52 = some (.invokevirtual 74, 55) := pm_of cl21_0 26 (q := (52, .invokevirtual 74, 55)) rfl
theorem c21_55 : pm_code 21 55 = some (.aload_n 0, 56) := pm_of cl21_0 27 (q := (55, .aload_n 0, 56)) rfl
theorem c21_56 : pm_code 21 56 = some (.aload_n 1, 57) := pm_of cl21_0 28 (q := (56, .aload_n 1, 57)) rfl
theorem c21_57 : pm_code 21 57 = some (.iload_n 2, 58) := pm_of cl21_0 29 (q := (57, .iload_n 2, 58)) rfl
theorem c21_58 : pm_code 21 58 = some (.invokevirtual 67, 61) := pm_of cl21_0 30 (q := (58, .invokevirtual 67, 61)) rfl
theorem c21_61 : pm_code 21 61 = some (.aload_n 0, 62) := pm_of cl21_0 31 (q := (61, .aload_n 0, 62)) rfl
theorem c21_62 : pm_code 21 62 = some (.iload 4, 64) := pm_of cl21_0 32 (q := (62, .iload 4, 64)) rfl
theorem c21_64 : pm_code 21 64 = some (.invokevirtual 25, 67) := pm_of cl21_0 33 (q := (64, .invokevirtual 25, 67)) rfl
theorem c21_67 : pm_code 21 67 = some (.iinc 3 1, 70) := pm_of cl21_0 34 (q := (67, .iinc 3 1, 70)) rfl
theorem c21_70 : pm_code 21 70 = some (.goto (-62), 73) := pm_of cl21_0 35 (q := (70, .goto (-62), 73)) rfl
theorem c21_73 : pm_code 21 73 = some (.return_, 74) := pm_of cl21_0 36 (q := (73, .return_, 74)) rfl
theorem k22 : pm_k 22 = 2 := by decide +kernel
theorem ml22 : pm_ml 22 = 5 := by decide +kernel
theorem rt22 : pm_rt 22 = none := by decide +kernel
theorem hh22 : pm_hh 22 = [] := by decide +kernel
theorem rc22 : pm_cl 2 = (pm_y 22).cls := by decide +kernel
theorem cl22_0 : ([(0, .aload_n 0, 1), (1, .aload_n 1, 2), (2, .iload_n 2, 3), (3, .invokevirtual 77, 6), (6, .iconst 0, 7), (7, .istore_n 3, 8), (8, .iload_n 3, 9), (9, .sipush 150, 12), (12, .if_icmp .ge 61, 15), (15, .aload_n 1, 16), (16, .bipush 42, 18), (18, .invokevirtual 70, 21), (21, .ifCond .ne 12, 24), (24, .aload_n 1, 25), (25, .bipush 47, 27), (27, .invokevirtual 70, 30), (30, .ifCond .eq 43, 33), (33, .aload_n 1, 34), (34, .bipush 42, 36), (36, .invokevirtual 70, 39), (39, .ifCond .eq 8, 42), (42, .bipush 10, 44), (44, .goto 5, 47), (47, .bipush 11, 49), (49, .istore 4, 51), (51, .aload_n 1, 52), (52, .invokevirtual 74, 55), (55, .aload_n 0, 56), (56, .aload_n 1, 57), (57, .iload_n 2, 58), (58, .invokevirtual 77, 61), (61, .aload_n 0, 62), (62, .iload 4, 64), (64, .invokevirtual 25, 67), (67, .iinc 3 1, 70), (70, .goto (-62), 73), (73, .return_, 74)] : List (Nat × Instr × Nat)).all (fun q => decide (pm_code 22 q.1 = some q.2)) = true := by decide +kernel
theorem c22_0 : pm_code 22 0 = some (.aload_n 0, 1) := pm_of cl22_0 0 (q := (0, .aload_n 0, 1)) rfl
theorem c22_1 : pm_code 22 1 = some (.aload_n 1, 2) := pm_of cl22_0 1 (q := (1, .aload_n 1, 2)) rfl
theorem c22_2 : pm_code 22 2 = some (.iload_n 2, 3) := pm_of cl22_0 2 (q := (2, .iload_n 2, 3)) rfl
theorem c22_3 : pm_code 22 3 = some (.invokevirtual 77, 6) := pm_of cl22_0 3 (q := (3, .invokevirtual 77, 6)) rfl
theorem c22_6 : pm_code 22 6 = some (.iconst 0, 7) := pm_of cl22_0 4 (q := (6, .iconst 0, 7)) rfl
theorem c22_7 : pm_code 22 7 = some (.istore_n 3, 8) := pm_of cl22_0 5 (q := (7, .istore_n 3, 8)) rfl
theorem c22_8 : pm_code 22 8 = some (.iload_n 3, 9) := pm_of cl22_0 6 (q := (8, .iload_n 3, 9)) rfl
theorem c22_9 : pm_code 22 9 = some (.sipush 150, 12) := pm_of cl22_0 7 (q := (9, .sipush 150, 12)) rfl
theorem c22_12 : pm_code 22 12 = some (.if_icmp .ge 61, 15) := pm_of cl22_0 8 (q := (12, .if_icmp .ge 61, 15)) rfl
theorem c22_15 : pm_code 22 15 = some (.aload_n 1, 16) := pm_of cl22_0 9 (q := (15, .aload_n 1, 16)) rfl
theorem c22_16 : pm_code 22 16 = some (.bipush 42, 18) := pm_of cl22_0 10 (q := (16, .bipush 42, 18)) rfl
theorem c22_18 : pm_code 22 18 = some (.invokevirtual 70, 21) := pm_of cl22_0 11 (q := (18, .invokevirtual 70, 21)) rfl
theorem c22_21 : pm_code 22 21 = some (.ifCond .ne 12, 24) := pm_of cl22_0 12 (q := (21, .ifCond .ne 12, 24)) rfl
theorem c22_24 : pm_code 22 24 = some (.aload_n 1, 25) := pm_of cl22_0 13 (q := (24, .aload_n 1, 25)) rfl
theorem c22_25 : pm_code 22 25 = some (.bipush 47, 27) := pm_of cl22_0 14 (q := (25, .bipush 47, 27)) rfl
theorem c22_27 : pm_code 22 27 = some (.invokevirtual 70, 30) := pm_of cl22_0 15 (q := (27, .invokevirtual 70, 30)) rfl
theorem c22_30 : pm_code 22 30 = some (.ifCond .eq 43, 33) := pm_of cl22_0 16 (q := (30, .ifCond .eq 43, 33)) rfl
theorem c22_33 : pm_code 22 33 = some (.aload_n 1, 34) := pm_of cl22_0 17 (q := (33, .aload_n 1, 34)) rfl
theorem c22_34 : pm_code 22 34 = some (.bipush 42, 36) := pm_of cl22_0 18 (q := (34, .bipush 42, 36)) rfl
theorem c22_36 : pm_code 22 36 = some (.invokevirtual 70, 39) := pm_of cl22_0 19 (q := (36, .invokevirtual 70, 39)) rfl
theorem c22_39 : pm_code 22 39 = some (.ifCond .eq 8, 42) := pm_of cl22_0 20 (q := (39, .ifCond .eq 8, 42)) rfl
theorem c22_42 : pm_code 22 42 = some (.bipush 10, 44) := pm_of cl22_0 21 (q := (42, .bipush 10, 44)) rfl
theorem c22_44 : pm_code 22 44 = some (.goto 5, 47) := pm_of cl22_0 22 (q := (44, .goto 5, 47)) rfl
theorem c22_47 : pm_code 22 47 = some (.bipush 11, 49) := pm_of cl22_0 23 (q := (47, .bipush 11, 49)) rfl
theorem c22_49 : pm_code 22 49 = some (.istore 4, 51) := pm_of cl22_0 24 (q := (49, .istore 4, 51)) rfl
theorem c22_51 : pm_code 22 51 = some (.aload_n 1, 52) := pm_of cl22_0 25 (q := (51, .aload_n 1, 52)) rfl
theorem c22_52 : pm_code 22 52 = some (.invokevirtual 74, 55) := pm_of cl22_0 26 (q := (52, .invokevirtual 74, 55)) rfl
theorem c22_55 : pm_code 22 55 = some (.aload_n 0, 56) := pm_of cl22_0 27 (q := (55, .aload_n 0, 56)) rfl
theorem c22_56 : pm_code 22 56 = some (.aload_n 1, 57) := pm_of cl22_0 28 (q := (56, .aload_n 1, 57)) rfl
theorem c22_57 : pm_code 22 57 = some (.iload_n 2, 58) := pm_of cl22_0 29 (q := (57, .iload_n 2, 58)) rfl
theorem c22_58 : pm_code 22 58 = some (.invokevirtual 77, 61) := pm_of cl22_0 30 (q := (58, .invokevirtual 77, 61)) rfl
theorem c22_61 : pm_code 22 61 = some (.aload_n 0, 62) := pm_of cl22_0 31 (q := (61, .aload_n 0, 62)) rfl
theorem c22_62 : pm_code 22 62 = some (.iload 4, 64) := pm_of cl22_0 32 (q := (62, .iload 4, 64)) rfl
theorem c22_64 : pm_code 22 64 = some (.invokevirtual 25, 67) := pm_of cl22_0 33 (q := (64, .invokevirtual 25, 67)) rfl
theorem c22_67 : pm_code 22 67 = some (.iinc 3 1, 70) := pm_of cl22_0 34 (q := (67, .iinc 3 1, 70)) rfl
theorem c22_70 : pm_code 22 70 = some (.goto (-62), 73) := pm_of cl22_0 35 (q := (70, .goto (-62), 73)) rfl
theorem c22_73 : pm_code 22 73 = some (.return_, 74) := pm_of cl22_0 36 (q := (73, .return_, 74)) rfl
theorem k23 : pm_k 23 = 2 := by decide +kernel
theorem ml23 : pm_ml 23 = 5 := by decide +kernel
theorem rt23 : pm_rt 23 = none := by decide +kernel
theorem hh23 : pm_hh 23 = [] := by decide +kernel
theorem rc23 : pm_cl 2 = (pm_y 23).cls := by decide +kernel
theorem cl23_0 : ([(0, .aload_n 1, 1), (1, .invokestatic 80, 4), (4, .istore_n 3, 5), (5, .aload_n 1, 6), (6, .invokestatic 84, 9), (9, .istore 4, 11), (11, .aload_n 1, 12), (12, .invokevirtual 87, 15), (15, .ifCond .eq 21, 18), (18, .aload_n 0, 19), (19, .bipush 14, 21), (21, .aload_n 1, 22), (22, .iconst 0, 23), (23, .sipush 999, 26), (26, .invokevirtual 90, 29), (29, .iadd, 30), (30, .invokevirtual 25, 33), (33, .goto 127, 36), (36, .iload 4, 38), (38, .iconst (-1), 39), (39, .if_icmp .eq 16, 42), (42, .aload_n 1, 43), (43, .invokevirtual 74, 46), (46, .aload_n 0, 47), (47, .iload 4, 49), (49, .invokevirtual 25, 52), (52, .goto 108, 55), (55, .iload_n 3, 56), (56, .iconst (-1), 57), (57, .if_icmp .ne 20, 60), (60, .aload_n 1, 61), (61, .bipush 40, 63), (63, .invokevirtual 70, 66), (66, .ifCond .ne 11, 69), (69, .aload_n 1, 70), (70, .iconst 1, 71), (71, .invokevirtual 60, 74), (74, .goto 86, 77), (77, .iload_n 2, 78), (78, .bipush 6, 80)] : List (Nat × Instr × Nat)).all (fun q => decide (pm_code 23 q.1 = some q.2)) = true := by decide +kernel
theorem c23_0 : pm_code 23 0 = some (.aload_n 1, 1) := pm_of cl23_0 0 (q := (0, .aload_n 1, 1)) rfl
theorem c23_1 : pm_code 23 1 = some (.invokestatic 80, 4) := pm_of cl23_0 1 (q := (1, .invokestatic 80, 4)) rfl
theorem c23_4 : pm_code 23 4 = some (.istore_n 3, 5) := pm_of cl23_0 2 (q := (4, .istore_n 3, 5)) rfl
theorem c23_5 : pm_code 23 5 = some (.aload_n 1, 6) := pm_of cl23_0 3 (q := (5, .aload_n 1, 6)) rfl
theorem c23_6 : pm_code 23 6 = some (.invokestatic 84, 9) := pm_of cl23_0 4 (q := (6, .invokestatic 84, 9)) rfl
theorem c23_9 : pm_code 23 9 = some (.istore 4, 11) := pm_of cl23_0 5 (q := (9, .istore 4, 11)) rfl
theorem c23_11 : pm_code 23 11 = some (.aload_n 1, 12) := pm_of cl23_0 6 (q := (11, .aload_n 1, 12)) rfl
theorem c23_12 : pm_code 23 12 = some (.invokevirtual 87, 15) := pm_of cl23_0 7 (q := (12, .invokevirtual 87, 15)) rfl
theorem c23_15 : pm_code 23 15 = some (.ifCond .eq 21, 18) := pm_of cl23_0 8 (q := (15, .ifCond .eq 21, 18)) rfl
theorem c23_18 : pm_code 23 18 = some (.aload_n 0, 19) := pm_of cl23_0 9 (q := (18, .aload_n 0, 19)) rfl
theorem c23_19 : pm_code 23 19 = some (.bipush 14, 21) := pm_of cl23_0 10 (q := (19, .bipush 14, 21)) rfl
theorem c23_21 : pm_code 23 21 = some (.aload_n 1, 22) := pm_of cl23_0 11 (q := (21, .aload_n 1, 22)) rfl
theorem c23_22 : pm_code 23 22 = some (.iconst 0, 23) := pm_of cl23_0 12 (q := (22, .iconst 0, 23)) rfl
theorem c23_23 : pm_code 23 23 = some (.sipush 999, 26) := pm_of cl23_0 13 (q := (23, .sipush 999, 26)) rfl
theorem c23_26 : pm_code 23 26 = some (.invokevirtual 90, 29) := pm_of cl23_0 14 (q := (26, .invokevirtual 90, 29)) rfl
theorem c23_29 : pm_code 23 29 = some (.iadd, 30) := pm_of cl23_0 15 (q := (29, .iadd, 30)) rfl
theorem c23_30 : pm_code 23 30 = some (.invokevirtual 25, 33) := pm_of cl23_0 16 (q := (30, .invokevirtual 25, 33)) rfl
theorem c23_33 : pm_code 23 33 = some (.goto 127, 36) := pm_of cl23_0 17 (q := (33, .goto 127, 36)) rfl
theorem c23_36 : pm_code 23 36 = some (.iload 4, 38) := pm_of cl23_0 18 (q := (36, .iload 4, 38)) rfl
theorem c23_38 : pm_code 23 38 = some (.iconst (-1), 39) := pm_of cl23_0 19 (q := (38, .iconst (-1), 39)) rfl
theorem c23_39 : pm_code 23 39 = some (.if_icmp .eq 16, 42) := pm_of cl23_0 20 (q := (39, .if_icmp .eq 16, 42)) rfl
theorem c23_42 : pm_code 23 42 = some (.aload_n 1, 43) := pm_of cl23_0 21 (q := (42, .aload_n 1, 43)) rfl
theorem c23_43 : pm_code 23 43 = some (.invokevirtual 74, 46) := pm_of cl23_0 22 (q := (43, .invokevirtual 74, 46)) rfl
theorem c23_46 : pm_code 23 46 = some (.aload_n 0, 47) := pm_of cl23_0 23 (q := (46, .aload_n 0, 47)) rfl
theorem c23_47 : pm_code 23 47 = some (.iload 4, 49) := pm_of cl23_0 24 (q := (47, .iload 4, 49)) rfl
theorem c23_49 : pm_code 23 49 = some (.invokevirtual 25, 52) := pm_of cl23_0 25 (q := (49, .invokevirtual 25, 52)) rfl
theorem c23_52 : pm_code 23 52 = some (.goto 108, 55) := pm_of cl23_0 26 (q := (52, .goto 108, 55)) rfl
theorem c23_55 : pm_code 23 55 = some (.iload_n 3, 56) := pm_of cl23_0 27 (q := (55, .iload_n 3, 56)) rfl
theorem c23_56 : pm_code 23 56 = some (.iconst (-1), 57) := pm_of cl23_0 28 (q := (56, .iconst (-1), 57)) rfl
theorem c23_57 : pm_code 23 57 = some (.if_icmp .ne 20, 60) := pm_of cl23_0 29 (q := (57, .if_icmp .ne 20, 60)) rfl
theorem c23_60 : pm_code 23 60 = some (.aload_n 1, 61) := pm_of cl23_0 30 (q := (60, .aload_n 1, 61)) rfl
theorem c23_61 : pm_code 23 61 = some (.bipush 40, 63) := pm_of cl23_0 31 (q := (61, .bipush 40, 63)) rfl
theorem c23_63 : pm_code 23 63 = some (.invokevirtual 70, 66) := pm_of cl23_0 32 (q := (63, .invokevirtual 70, 66)) rfl
theorem c23_66 : pm_code 23 66 = some (.ifCond .ne 11, 69) := pm_of cl23_0 33 (q := (66, .ifCond .ne 11, 69)) rfl
theorem c23_69 : pm_code 23 69 = some (.aload_n 1, 70) := pm_of cl23_0 34 (q := (69, .aload_n 1, 70)) rfl
theorem c23_70 : pm_code 23 70 = some (.iconst 1, 71) := pm_of cl23_0 35 (q := (70, .iconst 1, 71)) rfl
theorem c23_71 : pm_code 23 71 = some (.invokevirtual 60, 74) := pm_of cl23_0 36 (q := (71, .invokevirtual 60, 74)) rfl
theorem c23_74 : pm_code 23 74 = some (.goto 86, 77) := pm_of cl23_0 37 (q := (74, .goto 86, 77)) rfl
theorem c23_77 : pm_code 23 77 = some (.iload_n 2, 78) := pm_of cl23_0 38 (q := (77, .iload_n 2, 78)) rfl
theorem c23_78 : pm_code 23 78 = some (.bipush 6, 80) := pm_of cl23_0 39 (q := (78, .bipush 6, 80)) rfl
theorem cl23_1 : ([(80, .if_icmp .lt 11, 83), (83, .aload_n 1, 84), (84, .iconst 3, 85), (85, .invokevirtual 60, 88), (88, .goto 72, 91), (91, .iload_n 3, 92), (92, .iconst (-1), 93), (93, .if_icmp .ne 24, 96), (96, .aload_n 1, 97), (97, .invokevirtual 74, 100), (100, .aload_n 0, 101), (101, .aload_n 1, 102), (102, .iload_n 2, 103), (103, .iconst 1, 104), (104, .iadd, 105), (105, .invokevirtual 50, 108), (108, .aload_n 1, 109), (109, .bipush 41, 111), (111, .invokevirtual 93, 114), (114, .goto 46, 117), (117, .aload_n 1, 118), (118, .invokevirtual 74, 121), (121, .aload_n 1, 122), (122, .bipush 91, 124), (124, .invokevirtual 93, 127), (127, .aload_n 0, 128), (128, .aload_n 1, 129), (129, .iload_n 2, 130), (130, .iconst 1, 131), (131, .iadd, 132), (132, .invokevirtual 50, 135), (135, .aload_n 1, 136), (136, .bipush 44, 138), (138, .invokevirtual 93, 141), (141, .aload_n 0, 142), (142, .aload_n 1, 143), (143, .iload_n 2, 144), (144, .iconst 1, 145), (145, .iadd, 146), (146, .invokevirtual 50, 149)] : List (Nat × Instr × Nat)).all (fun q => decide (pm_code 23 q.1 = some q.2)) = true := by decide +kernel
theorem c23_80 : pm_code 23 80 = some (.if_icmp .lt 11, 83) := pm_of cl23_1 0 (q := (80, .if_icmp .lt 11, 83)) rfl
theorem c23_83 : pm_code 23 83 = some (.aload_n 1, 84) := pm_of cl23_1 1 (q := (83, .aload_n 1, 84)) rfl
theorem c23_84 : pm_code 23 84 = some (.iconst 3, 85) := pm_of cl23_1 2 (q := (84, .iconst 3, 85)) rfl
theorem c23_85 : pm_code 23 85 = some (.invokevirtual 60, 88) := pm_of cl23_1 3 (q := (85, .invokevirtual 60, 88)) rfl
theorem c23_88 : pm_code 23 88 = some (.goto 72, 91) := pm_of cl23_1 4 (q := (88, .goto 72, 91)) rfl
theorem c23_91 : pm_code 23 91 = some (.iload_n 3, 92) := pm_of cl23_1 5 (q := (91, .iload_n 3, 92)) rfl
theorem c23_92 : pm_code 23 92 = some (.iconst (-1), 93) := pm_of cl23_1 6 (q := (92, .iconst (-1), 93)) rfl
theorem c23_93 : pm_code 23 93 = some (.if_icmp .ne 24, 96) := pm_of cl23_1 7 (q := (93, .if_icmp .ne 24, 96)) rfl
theorem c23_96 : pm_code 23 96 = some (.aload_n 1, 97) := pm_of cl23_1 8 (q := (96, .aload_n 1, 97)) rfl
theorem c23_97 : pm_code 23 97 = some (.invokevirtual 74, 100) := pm_of cl23_1 9 (q := (97, .invokevirtual 74, 100)) rfl
theorem c23_100 : pm_code 23 100 = some (.aload_n 0, 101) := pm_of cl23_1 10 (q := (100, .aload_n 0, 101)) rfl
theorem c23_101 : pm_code 23 101 = some (.aload_n 1, 102) := pm_of cl23_1 11 (q := (101, .aload_n 1, 102)) rfl
theorem c23_102 : pm_code 23 102 = some (.iload_n 2, 103) := pm_of cl23_1 12 (q := (102, .iload_n 2, 103)) rfl
theorem c23_103 : pm_code 23 103 = some (.iconst 1, 104) := pm_of cl23_1 13 (q := (103, .iconst 1, 104)) rfl
theorem c23_104 : pm_code 23 104 = some (.iadd, 105) := pm_of cl23_1 14 (q := (104, .iadd, 105)) rfl
theorem c23_105 : pm_code 23 105 = some (.invokevirtual 50, 108) := pm_of cl23_1 15 (q := (105, .invokevirtual 50, 108)) rfl
theorem c23_108 : pm_code 23 108 = some (.aload_n 1, 109) := pm_of cl23_1 16 (q := (108, .aload_n 1, 109)) rfl
theorem c23_109 : pm_code 23 109 = some (.bipush 41, 111) := pm_of cl23_1 17 (q := (109, .bipush 41, 111)) rfl
theorem c23_111 : pm_code 23 111 = some (.invokevirtual 93, 114) := pm_of cl23_1 18 (q := (111, .invokevirtual 93, 114)) rfl
theorem c23_114 : pm_code 23 114 = some (.goto 46, 117) := pm_of cl23_1 19 (q := (114, .goto 46, 117)) rfl
theorem c23_117 : pm_code 23 117 = some (.aload_n 1, 118) := pm_of cl23_1 20 (q := (117, .aload_n 1, 118)) rfl
theorem c23_118 : pm_code 23 118 = some (.invokevirtual 74, 121) := pm_of cl23_1 21 (q := (118, .invokevirtual 74, 121)) rfl
theorem c23_121 : pm_code 23 121 = some (.aload_n 1, 122) := pm_of cl23_1 22 (q := (121, .aload_n 1, 122)) rfl
theorem c23_122 : pm_code 23 122 = some (.bipush 91, 124) := pm_of cl23_1 23 (q := (122, .bipush 91, 124)) rfl
theorem c23_124 : pm_code 23 124 = some (.invokevirtual 93, 127) := pm_of cl23_1 24 (q := (124, .invokevirtual 93, 127)) rfl
theorem c23_127 : pm_code 23 127 = some (.aload_n 0, 128) := pm_of cl23_1 25 (q := (127, .aload_n 0, 128)) rfl
theorem c23_128 : pm_code 23 128 = some (.aload_n 1, 129) := pm_of cl23_1 26 (q := (128, .aload_n 1, 129)) rfl
theorem c23_129 : pm_code 23 129 = some (.iload_n 2, 130) := pm_of cl23_1 27 (q := (129, .iload_n 2, 130)) rfl
theorem c23_130 : pm_code 23 130 = some (.iconst 1, 131) := pm_of cl23_1 28 (q := (130, .iconst 1, 131)) rfl
theorem c23_131 : pm_code 23 131 = some (.iadd, 132) := pm_of cl23_1 29 (q := (131, .iadd, 132)) rfl
theorem c23_132 : pm_code 23 132 = some (.invokevirtual 50, 135) := pm_of cl23_1 30 (q := (132, .invokevirtual 50, 135)) rfl
theorem c23_135 : pm_code 23 135 = some (.aload_n 1, 136) := pm_of cl23_1 31 (q := (135, .aload_n 1, 136)) rfl
theorem c23_136 : pm_code 23 136 = some (.bipush 44, 138) := pm_of cl23_1 32 (q := (136, .bipush 44, 138)) rfl
theorem c23_138 : pm_code 23 138 = some (.invokevirtual 93, 141) := pm_of cl23_1 33 (q := (138, .invokevirtual 93, 141)) rfl
theorem c23_141 : pm_code 23 141 = some (.aload_n 0, 142) := pm_of cl23_1 34 (q := (141, .aload_n 0, 142)) rfl
theorem c23_142 : pm_code 23 142 = some (.aload_n 1, 143) := pm_of cl23_1 35 (q := (142, .aload_n 1, 143)) rfl
theorem c23_143 : pm_code 23 143 = some (.iload_n 2, 144) := pm_of cl23_1 36 (q := (143, .iload_n 2, 144)) rfl
theorem c23_144 : pm_code 23 144 = some (.iconst 1, 145) := pm_of cl23_1 37 (q := (144, .iconst 1, 145)) rfl
theorem c23_145 : pm_code 23 145 = some (.iadd, 146) := pm_of cl23_1 38 (q := (145, .iadd, 146)) rfl
theorem c23_146 : pm_code 23 146 = some (.invokevirtual 50, 149) := pm_of cl23_1 39 (q := (146, .invokevirtual 50, 149)) rfl
theorem cl23_2 : ([(149, .aload_n 1, 150), (150, .bipush 93, 152), (152, .invokevirtual 93, 155), (155, .aload_n 0, 156), (156, .iload_n 3, 157), (157, .invokevirtual 25, 160), (160, .return_, 161)] : List (Nat × Instr × Nat)).all (fun q => decide (pm_code 23 q.1 = some q.2)) = true := by decide +kernel
theorem c23_149 : pm_code 23 149 = some (.aload_n 1, 150) := pm_of cl23_2 0 (q := (149, .aload_n 1, 150)) rfl
theorem c23_150 : pm_code 23 150 = some (.bipush 93, 152) := pm_of cl23_2 1 (q := (150, .bipush 93, 152)) rfl
theorem c23_152 : pm_code 23 152 = some (.invokevirtual 93, 155) := pm_of cl23_2 2 (q := (152, .invokevirtual 93, 155)) rfl
theorem c23_155 : pm_code 23 155 = some (.aload_n 0, 156) := pm_of cl23_2 3 (q := (155, .aload_n 0, 156)) rfl
theorem c23_156 : pm_code 23 156 = some (.iload_n 3, 157) := pm_of cl23_2 4 (q := (156, .iload_n 3, 157)) rfl
theorem c23_157 : pm_code 23 157 = some (.invokevirtual 25, 160) := pm_of cl23_2 5 (q := (157, .invokevirtual 25, 160)) rfl
theorem c23_160 : pm_code 23 160 = some (.return_, 161) := pm_of cl23_2 6 (q := (160, .return_, 161)) rfl
theorem k24 : pm_k 24 = 2 := by decide +kernel
theorem ml24 : pm_ml 24 = 1 := by decide +kernel
theorem rt24 : pm_rt 24 = (some .int) := by decide +kernel
theorem hh24 : pm_hh 24 = [] := by decide +kernel
theorem rc24 : pm_cl 2 = (pm_y 24).cls := by decide +kernel
theorem cl24_0 : ([(0, .aload_n 0, 1), (1, .ldc 97, 3), (3, .invokevirtual 99, 6), (6, .ifCond .eq 6, 9), (9, .bipush 12, 11), (11, .ireturn, 12), (12, .aload_n 0, 13), (13, .ldc 103, 15), (15, .invokevirtual 99, 18), (18, .ifCond .eq 8, 21), (21, .bipush 13, 23), (23, .goto 4, 26), (26, .iconst (-1), 27), (27, .ireturn, 28)] : List (Nat × Instr × Nat)).all (fun q => decide (pm_code 24 q.1 = some q.2)) = true := by decide +kernel
theorem c24_0 : pm_code 24 0 = some (.aload_n 0, 1) := pm_of cl24_0 0 (q := (0, .aload_n 0, 1)) rfl
theorem c24_1 : pm_code 24 1 = some (.ldc 97, 3) := pm_of cl24_0 1 (q := (1, .ldc 97, 3)) rfl
theorem c24_3 : pm_code 24 3 = some (.invokevirtual 99, 6) := pm_of cl24_0 2 (q := (3, .invokevirtual 99, 6)) rfl
theorem c24_6 : pm_code 24 6 = some (.ifCond .eq 6, 9) := pm_of cl24_0 3 (q := (6, .ifCond .eq 6, 9)) rfl
theorem c24_9 : pm_code 24 9 = some (.bipush 12, 11) := pm_of cl24_0 4 (q := (9, .bipush 12, 11)) rfl
theorem c24_11 : pm_code 24 11 = some (.ireturn, 12) := pm_of cl24_0 5 (q := (11, .ireturn, 12)) rfl
theorem c24_12 : pm_code 24 12 = some (.aload_n 0, 13) := pm_of cl24_0 6 (q := (12, .aload_n 0, 13)) rfl
theorem c24_13 : pm_code 24 13 = some (.ldc 103, 15) := pm_of cl24_0 7 (q := (13, .ldc 103, 15)) rfl
theorem c24_15 : pm_code 24 15 = some (.invokevirtual 99, 18) := pm_of cl24_0 8 (q := (15, .invokevirtual 99, 18)) rfl
theorem c24_18 : pm_code 24 18 = some (.ifCond .eq 8, 21) := pm_of cl24_0 9 (q := (18, .ifCond .eq 8, 21)) rfl
theorem c24_21 : pm_code 24 21 = some (.bipush 13, 23) := pm_of cl24_0 10 (q := (21, .bipush 13, 23)) rfl
theorem c24_23 : pm_code 24 23 = some (.goto 4, 26) := pm_of cl24_0 11 (q := (23, .goto 4, 26)) rfl
theorem c24_26 : pm_code 24 26 = some (.iconst (-1), 27) := pm_of cl24_0 12 (q := (26, .iconst (-1), 27)) rfl
theorem c24_27 : pm_code 24 27 = some (.ireturn, 28) := pm_of cl24_0 13 (q := (27, .ireturn, 28)) rfl
theorem k25 : pm_k 25 = 2 := by decide +kernel
theorem ml25 : pm_ml 25 = 1 := by decide +kernel
theorem rt25 : pm_rt 25 = (some .int) := by decide +kernel
theorem hh25 : pm_hh 25 = [] := by decide +kernel
theorem rc25 : pm_cl 2 = (pm_y 25).cls := by decide +kernel
theorem cl25_0 : ([(0, .aload_n 0, 1), (1, .ldc 105, 3), (3, .invokevirtual 99, 6), (6, .ifCond .eq 5, 9), (9, .iconst 0, 10), (10, .ireturn, 11), (11, .aload_n 0, 12), (12, .ldc 107, 14), (14, .invokevirtual 99, 17), (17, .ifCond .eq 5, 20), (20, .iconst 1, 21), (21, .ireturn, 22), (22, .aload_n 0, 23), (23, .ldc 109, 25), (25, .invokevirtual 99, 28), (28, .ifCond .eq 5, 31), (31, .iconst 2, 32), (32, .ireturn, 33), (33, .aload_n 0, 34), (34, .ldc 111, 36), (36, .invokevirtual 99, 39), (39, .ifCond .eq 5, 42), (42, .iconst 3, 43), (43, .ireturn, 44), (44, .aload_n 0, 45), (45, .ldc 113, 47), (47, .invokevirtual 99, 50), (50, .ifCond .eq 5, 53), (53, .iconst 4, 54), (54, .ireturn, 55), (55, .aload_n 0, 56), (56, .ldc 115, 58), (58, .invokevirtual 99, 61), (61, .ifCond .eq 5, 64), (64, .iconst 5, 65), (65, .ireturn, 66), (66, .aload_n 0, 67), (67, .ldc 117, 69), (69, .invokevirtual 99, 72), (72, .ifCond .eq 6, 75)] : List (Nat × Instr × Nat)).all (fun q => decide (pm_code 25 q.1 = some q.2)) = true := by decide +kernel
theorem c25_0 : pm_code 25 0 = some (.aload_n 0, 1) := pm_of cl25_0 0 (q := (0, .aload_n 0, 1)) rfl
theorem c25_1 : pm_code 25 1 = some (.ldc 105, 3) := pm_of cl25_0 1 (q := (1, .ldc 105, 3)) rfl
theorem c25_3 : pm_code 25 3 = some (.invokevirtual 99, 6) := pm_of cl25_0 2 (q := (3, .invokevirtual 99, 6)) rfl
theorem c25_6 : pm_code 25 6 = some (.ifCond .eq 5, 9) := pm_of cl25_0 3 (q := (6, .ifCond .eq 5, 9)) rfl
theorem c25_9 : pm_code 25 9 = some (.iconst 0, 10) := pm_of cl25_0 4 (q := (9, .iconst 0, 10)) rfl
theorem c25_10 : pm_code 25 10 = some (.ireturn, 11) := pm_of cl25_0 5 (q := (10, .ireturn, 11)) rfl
theorem c25_11 : pm_code 25 11 = some (.aload_n 0, 12) := pm_of cl25_0 6 (q := (11, .aload_n 0, 12)) rfl
theorem c25_12 : pm_code 25 12 = some (.ldc 107, 14) := pm_of cl25_0 7 (q := (12, .ldc 107, 14)) rfl
theorem c25_14 : pm_code 25 14 = some (.invokevirtual 99, 17) := pm_of cl25_0 8 (q := (14, .invokevirtual 99, 17)) rfl
theorem c25_17 : pm_code 25 17 = some (.ifCond .eq 5, 20) := pm_of cl25_0 9 (q := (17, .ifCond .eq 5, 20)) rfl
theorem c25_20 : pm_code 25 20 = some (.iconst 1, 21) := pm_of cl25_0 10 (q := (20, .iconst 1, 21)) rfl
theorem c25_21 : pm_code 25 21 = some (.ireturn, 22) := pm_of cl25_0 11 (q := (21, .ireturn, 22)) rfl
theorem c25_22 : pm_code 25 22 = some (.aload_n 0, 23) := pm_of cl25_0 12 (q := (22, .aload_n 0, 23)) rfl
theorem c25_23 : pm_code 25 23 = some (.ldc 109, 25) := pm_of cl25_0 13 (q := (23, .ldc 109, 25)) rfl
theorem c25_25 : pm_code 25 25 = some (.invokevirtual 99, 28) := pm_of cl25_0 14 (q := (25, .invokevirtual 99, 28)) rfl
theorem c25_28 : pm_code 25 28 = some (.ifCond .eq 5, 31) := pm_of cl25_0 15 (q := (28, .ifCond .eq 5, 31)) rfl
theorem c25_31 : pm_code 25 31 = some (.iconst 2, 32) := pm_of cl25_0 16 (q := (31, .iconst 2, 32)) rfl
theorem c25_32 : pm_code 25 32 = some (.ireturn, 33) := pm_of cl25_0 17 (q := (32, .ireturn, 33)) rfl
theorem c25_33 : pm_code 25 33 = some (.aload_n 0, 34) := pm_of cl25_0 18 (q := (33, .aload_n 0, 34)) rfl
theorem c25_34 : pm_code 25 34 = some (.ldc 111, 36) := pm_of cl25_0 19 (q := (34, .ldc 111, 36)) rfl
theorem c25_36 : pm_code 25 36 = some (.invokevirtual 99, 39) := pm_of cl25_0 20 (q := (36, .invokevirtual 99, 39)) rfl
theorem c25_39 : pm_code 25 39 = some (.ifCond .eq 5, 42) := pm_of cl25_0 21 (q := (39, .ifCond .eq 5, 42)) rfl
theorem c25_42 : pm_code 25 42 = some (.iconst 3, 43) := pm_of cl25_0 22 (q := (42, .iconst 3, 43)) rfl
theorem c25_43 : pm_code 25 43 = some (.ireturn, 44) := pm_of cl25_0 23 (q := (43, .ireturn, 44)) rfl
theorem c25_44 : pm_code 25 44 = some (.aload_n 0, 45) := pm_of cl25_0 24 (q := (44, .aload_n 0, 45)) rfl
theorem c25_45 : pm_code 25 45 = some (.ldc 113, 47) := pm_of cl25_0 25 (q := (45, .ldc 113, 47)) rfl
theorem c25_47 : pm_code 25 47 = some (.invokevirtual 99, 50) := pm_of cl25_0 26 (q := (47, .invokevirtual 99, 50)) rfl
theorem c25_50 : pm_code 25 50 = some (.ifCond .eq 5, 53) := pm_of cl25_0 27 (q := (50, .ifCond .eq 5, 53)) rfl
theorem c25_53 : pm_code 25 53 = some (.iconst 4, 54) := pm_of cl25_0 28 (q := (53, .iconst 4, 54)) rfl
theorem c25_54 : pm_code 25 54 = some (.ireturn, 55) := pm_of cl25_0 29 (q := (54, .ireturn, 55)) rfl
theorem c25_55 : pm_code 25 55 = some (.aload_n 0, 56) := pm_of cl25_0 30 (q := (55, .aload_n 0, 56)) rfl
theorem c25_56 : pm_code 25 56 = some (.ldc 115, 58) := pm_of cl25_0 31 (q := (56, .ldc 115, 58)) rfl
theorem c25_58 : pm_code 25 58 = some (.invokevirtual 99, 61) := pm_of cl25_0 32 (q := (58, .invokevirtual 99, 61)) rfl
theorem c25_61 : pm_code 25 61 = some (.ifCond .eq 5, 64) := pm_of cl25_0 33 (q := (61, .ifCond .eq 5, 64)) rfl
theorem c25_64 : pm_code 25 64 = some (.iconst 5, 65) := pm_of cl25_0 34 (q := (64, .iconst 5, 65)) rfl
theorem c25_65 : pm_code 25 65 = some (.ireturn, 66) := pm_of cl25_0 35 (q := (65, .ireturn, 66)) rfl
theorem c25_66 : pm_code 25 66 = some (.aload_n 0, 67) := pm_of cl25_0 36 (q := (66, .aload_n 0, 67)) rfl
theorem c25_67 : pm_code 25 67 = some (.ldc 117, 69) := pm_of cl25_0 37 (q := (67, .ldc 117, 69)) rfl
theorem c25_69 : pm_code 25 69 = some (.invokevirtual 99, 72) := pm_of cl25_0 38 (q := (69, .invokevirtual 99, 72)) rfl
theorem c25_72 : pm_code 25 72 = some (.ifCond .eq 6, 75) := pm_of cl25_0 39 (q := (72, .ifCond .eq 6, 75)) rfl
theorem cl25_1 : ([(75, .bipush 6, 77), (77, .ireturn, 78), (78, .aload_n 0, 79), (79, .ldc 119, 81), (81, .invokevirtual 99, 84), (84, .ifCond .eq 8, 87), (87, .bipush 7, 89), (89, .goto 4, 92), (92, .iconst (-1), 93), (93, .ireturn, 94)] : List (Nat × Instr × Nat)).all (fun q => decide (pm_code 25 q.1 = some q.2)) = true := by decide +kernel
theorem c25_75 : pm_code 25 75 = some (.bipush 6, 77) := pm_of cl25_1 0 (q := (75, .bipush 6, 77)) rfl
theorem c25_77 : pm_code 25 77 = some (.ireturn, 78) := pm_of cl25_1 1 (q := (77, .ireturn, 78)) rfl
theorem c25_78 : pm_code 25 78 = some (.aload_n 0, 79) := pm_of cl25_1 2 (q := (78, .aload_n 0, 79)) rfl
theorem c25_79 : pm_code 25 79 = some (.ldc 119, 81) := pm_of cl25_1 3 (q := (79, .ldc 119, 81)) rfl
theorem c25_81 : pm_code 25 81 = some (.invokevirtual 99, 84) := pm_of cl25_1 4 (q := (81, .invokevirtual 99, 84)) rfl
theorem c25_84 : pm_code 25 84 = some (.ifCond .eq 8, 87) := pm_of cl25_1 5 (q := (84, .ifCond .eq 8, 87)) rfl
theorem c25_87 : pm_code 25 87 = some (.bipush 7, 89) := pm_of cl25_1 6 (q := (87, .bipush 7, 89)) rfl
theorem c25_89 : pm_code 25 89 = some (.goto 4, 92) := pm_of cl25_1 7 (q := (89, .goto 4, 92)) rfl
theorem c25_92 : pm_code 25 92 = some (.iconst (-1), 93) := pm_of cl25_1 8 (q := (92, .iconst (-1), 93)) rfl
theorem c25_93 : pm_code 25 93 = some (.ireturn, 94) := pm_of cl25_1 9 (q := (93, .ireturn, 94)) rfl
theorem k26 : pm_k 26 = 2 := by decide +kernel
theorem ml26 : pm_ml 26 = 2 := by decide +kernel
theorem rt26 : pm_rt 26 = none := by decide +kernel
theorem hh26 : pm_hh 26 = [] := by decide +kernel
theorem rc26 : pm_cl 2 = (pm_y 26).cls := by decide +kernel
theorem cl26_0 : ([(0, .aload_n 1, 1), (1, .getfield 9, 4), (4, .aload_n 0, 5), (5, .getfield 9, 8), (8, .invokestatic 29, 11), (11, .aload_n 0, 12), (12, .aload_n 1, 13), (13, .getfield 18, 16), (16, .putfield 18, 19), (19, .return_, 20)] : List (Nat × Instr × Nat)).all (fun q => decide (pm_code 26 q.1 = some q.2)) = true := by decide +kernel
theorem c26_0 : pm_code 26 0 = some (.aload_n 1, 1) := pm_of cl26_0 0 (q := (0, .aload_n 1, 1)) rfl
theorem c26_1 : pm_code 26 1 = some (.getfield 9, 4) := pm_of cl26_0 1 (q := (1, .getfield 9, 4)) rfl
theorem c26_4 : pm_code 26 4 = some (.aload_n 0, 5) := pm_of cl26_0 2 (q := (4, .aload_n 0, 5)) rfl
theorem c26_5 : pm_code 26 5 = some (.getfield 9, 8) := pm_of cl26_0 3 (q := (5, .getfield 9, 8)) rfl
theorem c26_8 : pm_code 26 8 = some (.invokestatic 29, 11) := pm_of cl26_0 4 (q := (8, .invokestatic 29, 11)) rfl
theorem c26_11 : pm_code 26 11 = some (.aload_n 0, 12) := pm_of cl26_0 5 (q := (11, .aload_n 0, 12)) rfl
theorem c26_12 : pm_code 26 12 = some (.aload_n 1, 13) := pm_of cl26_0 6 (q := (12, .aload_n 1, 13)) rfl
theorem c26_13 : pm_code 26 13 = some (.getfield 18, 16) := pm_of cl26_0 7 (q := (13, .getfield 18, 16)) rfl
theorem c26_16 : pm_code 26 16 = some (.putfield 18, 19) := pm_of cl26_0 8 (q := (16, .putfield 18, 19)) rfl
theorem c26_19 : pm_code 26 19 = some (.return_, 20) := pm_of cl26_0 9 (q := (19, .return_, 20)) rfl
theorem k27 : pm_k 27 = 3 := by decide +kernel
theorem ml27 : pm_ml 27 = 1 := by decide +kernel
theorem rt27 : pm_rt 27 = none := by decide +kernel
theorem hh27 : pm_hh 27 = [] := by decide +kernel
theorem rc27 : pm_cl 3 = (pm_y 27).cls := by decide +kernel
theorem cl27_0 : ([(0, .aload_n 0, 1), (1, .invokespecial 3, 4), (4, .aload_n 0, 5), (5, .new 9, 8), (8, .dup, 9), (9, .invokespecial 11, 12), (12, .putfield 12, 15), (15, .aload_n 0, 16), (16, .new 18, 19), (19, .dup, 20), (20, .invokespecial 20, 23), (23, .putfield 21, 26), (26, .aload_n 0, 27), (27, .new 18, 30), (30, .dup, 31), (31, .invokespecial 20, 34), (34, .putfield 25, 37), (37, .aload_n 0, 38), (38, .bipush 8, 40), (40, .newarray .int, 42), (42, .putfield 28, 45), (45, .aload_n 0, 46), (46, .iconst 5, 47), (47, .newarray .int, 49), (49, .putfield 32, 52), (52, .aload_n 0, 53), (53, .iconst 5, 54), (54, .newarray .int, 56), (56, .putfield 35, 59), (59, .aload_n 0, 60), (60, .new 38, 63), (63, .dup, 64), (64, .invokespecial 40, 67), (67, .putfield 41, 70), (70, .aload_n 0, 71), (71, .getfield 12, 74), (74, .aload_n 0, 75), (75, .getfield 41, 78), (78, .invokevirtual 45, 81), (81, .return_, 82)] : List (Nat × Instr × Nat)).all (fun q => decide (pm_code 27 q.1 = some q.2)) = true := by decide +kernel
theorem c27_0 : pm_code 27 0 = some (.aload_n 0, 1) := pm_of cl27_0 0 (q := (0, .aload_n 0, 1)) rfl
theorem c27_1 : pm_code 27 1 = some (.invokespecial 3, 4) := pm_of cl27_0 1 (q := (1, .invokespecial 3, 4)) rfl
theorem c27_4 : pm_code 27 4 = some (.aload_n 0, 5) := pm_of cl27_0 2 (q := (4, .aload_n 0, 5)) rfl
theorem c27_5 : pm_code 27 5 = some (.new 9, 8) := pm_of cl27_0 3 (q := (5, .new 9, 8)) rfl
theorem c27_8 : pm_code 27 8 = some (.dup, 9) := pm_of cl27_0 4 (q := (8, .dup, 9)) rfl
theorem c27_9 : pm_code 27 9 = some (.invokespecial 11, 12) := pm_of cl27_0 5 (q := (9, .invokespecial 11, 12)) rfl
theorem c27_12 : pm_code 27 12 = some (.putfield 12, 15) := pm_of cl27_0 6 (q := (12, .putfield 12, 15)) rfl
theorem c27_15 : pm_code 27 15 = some (.aload_n 0, 16) := pm_of cl27_0 7 (q := (15, .aload_n 0, 16)) rfl
theorem c27_16 : pm_code 27 16 = some (.new 18, 19) := pm_of cl27_0 8 (q := (16, .new 18, 19)) rfl
theorem c27_19 : pm_code 27 19 = some (.dup, 20) := pm_of cl27_0 9 (q := (19, .dup, 20)) rfl
theorem c27_20 : pm_code 27 20 = some (.invokespecial 20, 23) := pm_of cl27_0 10 (q := (20, .invokespecial 20, 23)) rfl
theorem c27_23 : pm_code 27 23 = some (.putfield 21, 26) := pm_of cl27_0 11 (q := (23, .putfield 21, 26)) rfl
theorem c27_26 : pm_code 27 26 = some (.aload_n 0, 27) := pm_of cl27_0 12 (q := (26, .aload_n 0, 27)) rfl
theorem c27_27 : pm_code 27 27 = some (.new 18, 30) := pm_of cl27_0 13 (q := (27, .new 18, 30)) rfl
theorem c27_30 : pm_code 27 30 = some (.dup, 31) := pm_of cl27_0 14 (q := (30, .dup, 31)) rfl
theorem c27_31 : pm_code 27 31 = some (.invokespecial 20, 34) := pm_of cl27_0 15 (q := (31, .invokespecial 20, 34)) rfl
theorem c27_34 : pm_code 27 34 = some (.putfield 25, 37) := pm_of cl27_0 16 (q := (34, .putfield 25, 37)) rfl
theorem c27_37 : pm_code 27 37 = some (.aload_n 0, 38) := pm_of cl27_0 17 (q := (37, .aload_n 0, 38)) rfl
theorem c27_38 : pm_code 27 38 = some (.bipush 8, 40) := pm_of cl27_0 18 (q := (38, .bipush 8, 40)) rfl
theorem c27_40 : pm_code 27 40 = some (.newarray .int, 42) := pm_of cl27_0 19 (q := (40, .newarray .int, 42)) rfl
theorem c27_42 : pm_code 27 42 = some (.putfield 28, 45) := pm_of cl27_0 20 (q := (42, .putfield 28, 45)) rfl
theorem c27_45 : pm_code 27 45 = some (.aload_n 0, 46) := pm_of cl27_0 21 (q := (45, .aload_n 0, 46)) rfl
theorem c27_46 : pm_code 27 46 = some (.iconst 5, 47) := pm_of cl27_0 22 (q := (46, .iconst 5, 47)) rfl
theorem c27_47 : pm_code 27 47 = some (.newarray .int, 49) := pm_of cl27_0 23 (q := (47, .newarray .int, 49)) rfl
theorem c27_49 : pm_code 27 49 = some (.putfield 32, 52) := pm_of cl27_0 24 (q := (49, .putfield 32, 52)) rfl
theorem c27_52 : pm_code 27 52 = some (.aload_n 0, 53) := pm_of cl27_0 25 (q := (52, .aload_n 0, 53)) rfl
theorem c27_53 : pm_code 27 53 = some (.iconst 5, 54) := pm_of cl27_0 26 (q := (53, .iconst 5, 54)) rfl
theorem c27_54 : pm_code 27 54 = some (.newarray .int, 56) := pm_of cl27_0 27 (q := (54, .newarray .int, 56)) rfl
theorem c27_56 : pm_code 27 56 = some (.putfield 35, 59) := pm_of cl27_0 28 (q := (56, .putfield 35, 59)) rfl
theorem c27_59 : pm_code 27 59 = some (.aload_n 0, 60) := pm_of cl27_0 29 (q := (59, .aload_n 0, 60)) rfl
theorem c27_60 : pm_code 27 60 = some (.new 38, 63) := pm_of cl27_0 30 (q := (60, .new 38, 63)) rfl
theorem c27_63 : pm_code 27 63 = some (.dup, 64) := pm_of cl27_0 31 (q := (63, .dup, 64)) rfl
theorem c27_64 : pm_code 27 64 = some (.invokespecial 40, 67) := pm_of cl27_0 32 (q := (64, .invokespecial 40, 67)) rfl
theorem c27_67 : pm_code 27 67 = some (.putfield 41, 70) := pm_of cl27_0 33 (q := (67, .putfield 41, 70)) rfl
theorem c27_70 : pm_code 27 70 = some (.aload_n 0, 71) := pm_of cl27_0 34 (q := (70, .aload_n 0, 71)) rfl
theorem c27_71 : pm_code 27 71 = some (.getfield 12, 74) := pm_of cl27_0 35 (q := (71, .getfield 12, 74)) rfl
theorem c27_74 : pm_code 27 74 = some (.aload_n 0, 75) := pm_of cl27_0 36 (q := (74, .aload_n 0, 75)) rfl
theorem c27_75 : pm_code 27 75 = some (.getfield 41, 78) := pm_of cl27_0 37 (q := (75, .getfield 41, 78)) rfl
theorem c27_78 : pm_code 27 78 = some (.invokevirtual 45, 81) := pm_of cl27_0 38 (q := (78, .invokevirtual 45, 81)) rfl
theorem c27_81 : pm_code 27 81 = some (.return_, 82) := pm_of cl27_0 39 (q := (81, .return_, 82)) rfl
theorem k28 : pm_k 28 = 3 := by decide +kernel
theorem ml28 : pm_ml 28 = 1 := by decide +kernel
theorem rt28 : pm_rt 28 = (some (.object "PassagePapers$State")) := by decide +kernel
theorem hh28 : pm_hh 28 = [] := by decide +kernel
theorem rc28 : pm_cl 3 = (pm_y 28).cls := by decide +kernel
theorem cl28_0 : ([(0, .aload_n 0, 1), (1, .getfield 12, 4), (4, .areturn, 5)] : List (Nat × Instr × Nat)).all (fun q => decide (pm_code 28 q.1 = some q.2)) = true := by decide +kernel
theorem c28_0 : pm_code 28 0 = some (.aload_n 0, 1) := pm_of cl28_0 0 (q := (0, .aload_n 0, 1)) rfl
theorem c28_1 : pm_code 28 1 = some (.getfield 12, 4) := pm_of cl28_0 1 (q := (1, .getfield 12, 4)) rfl
theorem c28_4 : pm_code 28 4 = some (.areturn, 5) := pm_of cl28_0 2 (q := (4, .areturn, 5)) rfl
theorem k29 : pm_k 29 = 3 := by decide +kernel
theorem ml29 : pm_ml 29 = 3 := by decide +kernel
theorem rt29 : pm_rt 29 = (some .int) := by decide +kernel
theorem hh29 : pm_hh 29 = [] := by decide +kernel
theorem rc29 : pm_cl 3 = (pm_y 29).cls := by decide +kernel
theorem cl29_0 : ([(0, .iconst 0, 1), (1, .istore_n 1, 2), (2, .iconst 0, 3), (3, .istore_n 2, 4), (4, .iload_n 2, 5), (5, .aload_n 0, 6), (6, .getfield 41, 9), (9, .invokevirtual 56, 12), (12, .if_icmp .ge 42, 15), (15, .aload_n 0, 16), (16, .iload_n 2, 17), (17, .iconst 2, 18), (18, .invokevirtual 60, 21), (21, .ifCond .eq 27, 24), (24, .aload_n 0, 25), (25, .getfield 12, 28), (28, .iconst 2, 29), (29, .iload_n 2, 30), (30, .invokevirtual 52, 33), (33, .aload_n 0, 34), (34, .iload_n 2, 35), (35, .iconst 1, 36), (36, .invokevirtual 109, 39), (39, .if_icmp .lt 9, 42), (42, .iload_n 1, 43), (43, .iconst 1, 44), (44, .iload_n 2, 45), (45, .ishl, 46), (46, .ior, 47), (47, .istore_n 1, 48), (48, .iinc 2 1, 51), (51, .goto (-47), 54), (54, .iload_n 1, 55), (55, .ireturn, 56)] : List (Nat × Instr × Nat)).all (fun q => decide (pm_code 29 q.1 = some q.2)) = true := by decide +kernel
theorem c29_0 : pm_code 29 0 = some (.iconst 0, 1) := pm_of cl29_0 0 (q := (0, .iconst 0, 1)) rfl
theorem c29_1 : pm_code 29 1 = some (.istore_n 1, 2) := pm_of cl29_0 1 (q := (1, .istore_n 1, 2)) rfl
theorem c29_2 : pm_code 29 2 = some (.iconst 0, 3) := pm_of cl29_0 2 (q := (2, .iconst 0, 3)) rfl
theorem c29_3 : pm_code 29 3 = some (.istore_n 2, 4) := pm_of cl29_0 3 (q := (3, .istore_n 2, 4)) rfl
theorem c29_4 : pm_code 29 4 = some (.iload_n 2, 5) := pm_of cl29_0 4 (q := (4, .iload_n 2, 5)) rfl
theorem c29_5 : pm_code 29 5 = some (.aload_n 0, 6) := pm_of cl29_0 5 (q := (5, .aload_n 0, 6)) rfl
theorem c29_6 : pm_code 29 6 = some (.getfield 41, 9) := pm_of cl29_0 6 (q := (6, .getfield 41, 9)) rfl
theorem c29_9 : pm_code 29 9 = some (.invokevirtual 56, 12) := pm_of cl29_0 7 (q := (9, .invokevirtual 56, 12)) rfl
theorem c29_12 : pm_code 29 12 = some (.if_icmp .ge 42, 15) := pm_of cl29_0 8 (q := (12, .if_icmp .ge 42, 15)) rfl
theorem c29_15 : pm_code 29 15 = some (.aload_n 0, 16) := pm_of cl29_0 9 (q := (15, .aload_n 0, 16)) rfl
theorem c29_16 : pm_code 29 16 = some (.iload_n 2, 17) := pm_of cl29_0 10 (q := (16, .iload_n 2, 17)) rfl
theorem c29_17 : pm_code 29 17 = some (.iconst 2, 18) := pm_of cl29_0 11 (q := (17, .iconst 2, 18)) rfl
theorem c29_18 : pm_code 29 18 = some (.invokevirtual 60, 21) := pm_of cl29_0 12 (q := (18, .invokevirtual 60, 21)) rfl
theorem c29_21 : pm_code 29 21 = some (.ifCond .eq 27, 24) := pm_of cl29_0 13 (q := (21, .ifCond .eq 27, 24)) rfl
theorem c29_24 : pm_code 29 24 = some (.aload_n 0, 25) := pm_of cl29_0 14 (q := (24, .aload_n 0, 25)) rfl
theorem c29_25 : pm_code 29 25 = some (.getfield 12, 28) := pm_of cl29_0 15 (q := (25, .getfield 12, 28)) rfl
theorem c29_28 : pm_code 29 28 = some (.iconst 2, 29) := pm_of cl29_0 16 (q := (28, .iconst 2, 29)) rfl
theorem c29_29 : pm_code 29 29 = some (.iload_n 2, 30) := pm_of cl29_0 17 (q := (29, .iload_n 2, 30)) rfl
theorem c29_30 : pm_code 29 30 = some (.invokevirtual 52, 33) := pm_of cl29_0 18 (q := (30, .invokevirtual 52, 33)) rfl
theorem c29_33 : pm_code 29 33 = some (.aload_n 0, 34) := pm_of cl29_0 19 (q := (33, .aload_n 0, 34)) rfl
theorem c29_34 : pm_code 29 34 = some (.iload_n 2, 35) := pm_of cl29_0 20 (q := (34, .iload_n 2, 35)) rfl
theorem c29_35 : pm_code 29 35 = some (.iconst 1, 36) := pm_of cl29_0 21 (q := (35, .iconst 1, 36)) rfl
theorem c29_36 : pm_code 29 36 = some (.invokevirtual 109, 39) := pm_of cl29_0 22 (q := (36, .invokevirtual 109, 39)) rfl
theorem c29_39 : pm_code 29 39 = some (.if_icmp .lt 9, 42) := pm_of cl29_0 23 (q := (39, .if_icmp .lt 9, 42)) rfl
theorem c29_42 : pm_code 29 42 = some (.iload_n 1, 43) := pm_of cl29_0 24 (q := (42, .iload_n 1, 43)) rfl
theorem c29_43 : pm_code 29 43 = some (.iconst 1, 44) := pm_of cl29_0 25 (q := (43, .iconst 1, 44)) rfl
theorem c29_44 : pm_code 29 44 = some (.iload_n 2, 45) := pm_of cl29_0 26 (q := (44, .iload_n 2, 45)) rfl
theorem c29_45 : pm_code 29 45 = some (.ishl, 46) := pm_of cl29_0 27 (q := (45, .ishl, 46)) rfl
theorem c29_46 : pm_code 29 46 = some (.ior, 47) := pm_of cl29_0 28 (q := (46, .ior, 47)) rfl
theorem c29_47 : pm_code 29 47 = some (.istore_n 1, 48) := pm_of cl29_0 29 (q := (47, .istore_n 1, 48)) rfl
theorem c29_48 : pm_code 29 48 = some (.iinc 2 1, 51) := pm_of cl29_0 30 (q := (48, .iinc 2 1, 51)) rfl
theorem c29_51 : pm_code 29 51 = some (.goto (-47), 54) := pm_of cl29_0 31 (q := (51, .goto (-47), 54)) rfl
theorem c29_54 : pm_code 29 54 = some (.iload_n 1, 55) := pm_of cl29_0 32 (q := (54, .iload_n 1, 55)) rfl
theorem c29_55 : pm_code 29 55 = some (.ireturn, 56) := pm_of cl29_0 33 (q := (55, .ireturn, 56)) rfl
theorem k30 : pm_k 30 = 3 := by decide +kernel
theorem ml30 : pm_ml 30 = 3 := by decide +kernel
theorem rt30 : pm_rt 30 = (some .boolean) := by decide +kernel
theorem hh30 : pm_hh 30 = [] := by decide +kernel
theorem rc30 : pm_cl 3 = (pm_y 30).cls := by decide +kernel
theorem cl30_0 : ([(0, .aload_n 0, 1), (1, .getfield 12, 4), (4, .iconst 0, 5), (5, .iload_n 1, 6), (6, .invokevirtual 52, 9), (9, .iload_n 2, 10), (10, .if_icmp .ne 7, 13), (13, .iconst 1, 14), (14, .goto 4, 17), (17, .iconst 0, 18), (18, .ireturn, 19)] : List (Nat × Instr × Nat)).all (fun q => decide (pm_code 30 q.1 = some q.2)) = true := by decide +kernel
theorem c30_0 : pm_code 30 0 = some (.aload_n 0, 1) := pm_of cl30_0 0 (q := (0, .aload_n 0, 1)) rfl
theorem c30_1 : pm_code 30 1 = some (.getfield 12, 4) := pm_of cl30_0 1 (q := (1, .getfield 12, 4)) rfl
theorem c30_4 : pm_code 30 4 = some (.iconst 0, 5) := pm_of cl30_0 2 (q := (4, .iconst 0, 5)) rfl
theorem c30_5 : pm_code 30 5 = some (.iload_n 1, 6) := pm_of cl30_0 3 (q := (5, .iload_n 1, 6)) rfl
theorem c30_6 : pm_code 30 6 = some (.invokevirtual 52, 9) := pm_of cl30_0 4 (q := (6, .invokevirtual 52, 9)) rfl
theorem c30_9 : pm_code 30 9 = some (.iload_n 2, 10) := pm_of cl30_0 5 (q := (9, .iload_n 2, 10)) rfl
theorem c30_10 : pm_code 30 10 = some (.if_icmp .ne 7, 13) := pm_of cl30_0 6 (q := (10, .if_icmp .ne 7, 13)) rfl
theorem c30_13 : pm_code 30 13 = some (.iconst 1, 14) := pm_of cl30_0 7 (q := (13, .iconst 1, 14)) rfl
theorem c30_14 : pm_code 30 14 = some (.goto 4, 17) := pm_of cl30_0 8 (q := (14, .goto 4, 17)) rfl
theorem c30_17 : pm_code 30 17 = some (.iconst 0, 18) := pm_of cl30_0 9 (q := (17, .iconst 0, 18)) rfl
theorem c30_18 : pm_code 30 18 = some (.ireturn, 19) := pm_of cl30_0 10 (q := (18, .ireturn, 19)) rfl
theorem k31 : pm_k 31 = 3 := by decide +kernel
theorem ml31 : pm_ml 31 = 3 := by decide +kernel
theorem rt31 : pm_rt 31 = (some .int) := by decide +kernel
theorem hh31 : pm_hh 31 = [] := by decide +kernel
theorem rc31 : pm_cl 3 = (pm_y 31).cls := by decide +kernel
theorem cl31_0 : ([(0, .aload_n 0, 1), (1, .iload_n 1, 2), (2, .invokevirtual 97, 5), (5, .aload_n 0, 6), (6, .iload_n 2, 7), (7, .invokevirtual 101, 10), (10, .aload_n 0, 11), (11, .getfield 28, 14), (14, .invokevirtual 105, 17), (17, .ireturn, 18)] : List (Nat × Instr × Nat)).all (fun q => decide (pm_code 31 q.1 = some q.2)) = true := by decide +kernel
theorem c31_0 : pm_code 31 0 = some (.aload_n 0, 1) := pm_of cl31_0 0 (q := (0, .aload_n 0, 1)) rfl
theorem c31_1 : pm_code 31 1 = some (.iload_n 1, 2) := pm_of cl31_0 1 (q := (1, .iload_n 1, 2)) rfl
theorem c31_2 : pm_code 31 2 = some (.invokevirtual 97, 5) := pm_of cl31_0 2 (q := (2, .invokevirtual 97, 5)) rfl
theorem c31_5 : pm_code 31 5 = some (.aload_n 0, 6) := pm_of cl31_0 3 (q := (5, .aload_n 0, 6)) rfl
theorem c31_6 : pm_code 31 6 = some (.iload_n 2, 7) := pm_of cl31_0 4 (q := (6, .iload_n 2, 7)) rfl
theorem c31_7 : pm_code 31 7 = some (.invokevirtual 101, 10) := pm_of cl31_0 5 (q := (7, .invokevirtual 101, 10)) rfl
theorem c31_10 : pm_code 31 10 = some (.aload_n 0, 11) := pm_of cl31_0 6 (q := (10, .aload_n 0, 11)) rfl
theorem c31_11 : pm_code 31 11 = some (.getfield 28, 14) := pm_of cl31_0 7 (q := (11, .getfield 28, 14)) rfl
theorem c31_14 : pm_code 31 14 = some (.invokevirtual 105, 17) := pm_of cl31_0 8 (q := (14, .invokevirtual 105, 17)) rfl
theorem c31_17 : pm_code 31 17 = some (.ireturn, 18) := pm_of cl31_0 9 (q := (17, .ireturn, 18)) rfl
theorem k32 : pm_k 32 = 3 := by decide +kernel
theorem ml32 : pm_ml 32 = 3 := by decide +kernel
theorem rt32 : pm_rt 32 = none := by decide +kernel
theorem hh32 : pm_hh 32 = [] := by decide +kernel
theorem rc32 : pm_cl 3 = (pm_y 32).cls := by decide +kernel
theorem cl32_0 : ([(0, .aload_n 0, 1), (1, .getfield 12, 4), (4, .bipush 7, 6), (6, .iload_n 1, 7), (7, .invokevirtual 52, 10), (10, .istore_n 2, 11), (11, .aload_n 0, 12), (12, .getfield 28, 15), (15, .iconst 0, 16), (16, .aload_n 0, 17), (17, .getfield 41, 20), (20, .iload_n 1, 21), (21, .invokevirtual 76, 24), (24, .invokestatic 79, 27), (27, .aload_n 0, 28), (28, .getfield 28, 31), (31, .iconst 1, 32), (32, .aload_n 0, 33), (33, .getfield 12, 36), (36, .iconst 3, 37), (37, .iload_n 1, 38), (38, .invokevirtual 52, 41), (41, .invokestatic 79, 44), (44, .aload_n 0, 45), (45, .getfield 28, 48), (48, .iconst 2, 49), (49, .aload_n 0, 50), (50, .getfield 41, 53), (53, .iload_n 1, 54), (54, .invokevirtual 83, 57), (57, .invokestatic 79, 60), (60, .aload_n 0, 61), (61, .getfield 28, 64), (64, .iconst 3, 65), (65, .aload_n 0, 66), (66, .getfield 12, 69), (69, .iconst 4, 70), (70, .iload_n 1, 71), (71, .invokevirtual 52, 74), (74, .invokestatic 79, 77)] : List (Nat × Instr × Nat)).all (fun q => decide (pm_code 32 q.1 = some q.2)) = true := by decide +kernel
theorem c32_0 : pm_code 32 0 = some (.aload_n 0, 1) := pm_of cl32_0 0 (q := (0, .aload_n 0, 1)) rfl
theorem c32_1 : pm_code 32 1 = some (.getfield 12, 4) := pm_of cl32_0 1 (q := (1, .getfield 12, 4)) rfl
theorem c32_4 : pm_code 32 4 = some (.bipush 7, 6) := pm_of cl32_0 2 (q := (4, .bipush 7, 6)) rfl
theorem c32_6 : pm_code 32 6 = some (.iload_n 1, 7) := pm_of cl32_0 3 (q := (6, .iload_n 1, 7)) rfl
theorem c32_7 : pm_code 32 7 = some (.invokevirtual 52, 10) := pm_of cl32_0 4 (q := (7, .invokevirtual 52, 10)) rfl
theorem c32_10 : pm_code 32 10 = some (.istore_n 2, 11) := pm_of cl32_0 5 (q := (10, .istore_n 2, 11)) rfl
theorem c32_11 : pm_code 32 11 = some (.aload_n 0, 12) := pm_of cl32_0 6 (q := (11, .aload_n 0, 12)) rfl
theorem c32_12 : pm_code 32 12 = some (.getfield 28, 15) := pm_of cl32_0 7 (q := (12, .getfield 28, 15)) rfl
theorem c32_15 : pm_code 32 15 = some (.iconst 0, 16) := pm_of cl32_0 8 (q := (15, .iconst 0, 16)) rfl
theorem c32_16 : pm_code 32 16 = some (.aload_n 0, 17) := pm_of cl32_0 9 (q := (16, .aload_n 0, 17)) rfl
theorem c32_17 : pm_code 32 17 = some (.getfield 41, 20) := pm_of cl32_0 10 (q := (17, .getfield 41, 20)) rfl
theorem c32_20 : pm_code 32 20 = some (.iload_n 1, 21) := pm_of cl32_0 11 (q := (20, .iload_n 1, 21)) rfl
theorem c32_21 : pm_code 32 21 = some (.invokevirtual 76, 24) := pm_of cl32_0 12 (q := (21, .invokevirtual 76, 24)) rfl
theorem c32_24 : pm_code 32 24 = some (.invokestatic 79, 27) := pm_of cl32_0 13 (q := (24, .invokestatic 79, 27)) rfl
theorem c32_27 : pm_code 32 27 = some (.aload_n 0, 28) := pm_of cl32_0 14 (q := (27, .aload_n 0, 28)) rfl
theorem c32_28 : pm_code 32 28 = some (.getfield 28, 31) := pm_of cl32_0 15 (q := (28, .getfield 28, 31)) rfl
theorem c32_31 : pm_code 32 31 = some (.iconst 1, 32) := pm_of cl32_0 16 (q := (31, .iconst 1, 32)) rfl
theorem c32_32 : pm_code 32 32 = some (.aload_n 0, 33) := pm_of cl32_0 17 (q := (32, .aload_n 0, 33)) rfl
theorem c32_33 : pm_code 32 33 = some (.getfield 12, 36) := pm_of cl32_0 18 (q := (33, .getfield 12, 36)) rfl
theorem c32_36 : pm_code 32 36 = some (.iconst 3, 37) := pm_of cl32_0 19 (q := (36, .iconst 3, 37)) rfl
theorem c32_37 : pm_code 32 37 = some (.iload_n 1, 38) := pm_of cl32_0 20 (q := (37, .iload_n 1, 38)) rfl
theorem c32_38 : pm_code 32 38 = some (.invokevirtual 52, 41) := pm_of cl32_0 21 (q := (38, .invokevirtual 52, 41)) rfl
theorem c32_41 : pm_code 32 41 = some (.invokestatic 79, 44) := pm_of cl32_0 22 (q := (41, .invokestatic 79, 44)) rfl
theorem c32_44 : pm_code 32 44 = some (.aload_n 0, 45) := pm_of cl32_0 23 (q := (44, .aload_n 0, 45)) rfl
theorem c32_45 : pm_code 32 45 = some (.getfield 28, 48) := pm_of cl32_0 24 (q := (45, .getfield 28, 48)) rfl
theorem c32_48 : pm_code 32 48 = some (.iconst 2, 49) := pm_of cl32_0 25 (q := (48, .iconst 2, 49)) rfl
theorem c32_49 : pm_code 32 49 = some (.aload_n 0, 50) := pm_of cl32_0 26 (q := (49, .aload_n 0, 50)) rfl
theorem c32_50 : pm_code 32 50 = some (.getfield 41, 53) := pm_of cl32_0 27 (q := (50, .getfield 41, 53)) rfl
theorem c32_53 : pm_code 32 53 = some (.iload_n 1, 54) := pm_of cl32_0 28 (q := (53, .iload_n 1, 54)) rfl
theorem c32_54 : pm_code 32 54 = some (.invokevirtual 83, 57) := pm_of cl32_0 29 (q := (54, .invokevirtual 83, 57)) rfl
theorem c32_57 : pm_code 32 57 = some (.invokestatic 79, 60) := pm_of cl32_0 30 (q := (57, .invokestatic 79, 60)) rfl
theorem c32_60 : pm_code 32 60 = some (.aload_n 0, 61) := pm_of cl32_0 31 (q := (60, .aload_n 0, 61)) rfl
theorem c32_61 : pm_code 32 61 = some (.getfield 28, 64) := pm_of cl32_0 32 (q := (61, .getfield 28, 64)) rfl
theorem c32_64 : pm_code 32 64 = some (.iconst 3, 65) := pm_of cl32_0 33 (q := (64, .iconst 3, 65)) rfl
theorem c32_65 : pm_code 32 65 = some (.aload_n 0, 66) := pm_of cl32_0 34 (q := (65, .aload_n 0, 66)) rfl
theorem c32_66 : pm_code 32 66 = some (.getfield 12, 69) := pm_of cl32_0 35 (q := (66, .getfield 12, 69)) rfl
theorem c32_69 : pm_code 32 69 = some (.iconst 4, 70) := pm_of cl32_0 36 (q := (69, .iconst 4, 70)) rfl
theorem c32_70 : pm_code 32 70 = some (.iload_n 1, 71) := pm_of cl32_0 37 (q := (70, .iload_n 1, 71)) rfl
theorem c32_71 : pm_code 32 71 = some (.invokevirtual 52, 74) := pm_of cl32_0 38 (q := (71, .invokevirtual 52, 74)) rfl
theorem c32_74 : pm_code 32 74 = some (.invokestatic 79, 77) := pm_of cl32_0 39 (q := (74, .invokestatic 79, 77)) rfl
theorem cl32_1 : ([(77, .aload_n 0, 78), (78, .getfield 28, 81), (81, .iconst 4, 82), (82, .aload_n 0, 83), (83, .getfield 41, 86), (86, .iload_n 1, 87), (87, .invokevirtual 86, 90), (90, .invokestatic 89, 93), (93, .invokestatic 79, 96), (96, .aload_n 0, 97), (97, .getfield 28, 100), (100, .iconst 5, 101), (101, .aload_n 0, 102), (102, .getfield 12, 105), (105, .iconst 5, 106), (106, .iload_n 1, 107), (107, .invokevirtual 52, 110), (110, .invokestatic 79, 113), (113, .aload_n 0, 114), (114, .getfield 28, 117), (117, .bipush 6, 119), (119, .iload_n 2, 120), (120, .iconst (-1), 121), (121, .if_icmp .ne 13, 124), (124, .aload_n 0, 125), (125, .getfield 12, 128), (128, .invokevirtual 94, 131), (131, .goto 4, 134), (134, .iload_n 2, 135), (135, .invokestatic 79, 138), (138, .aload_n 0, 139), (139, .getfield 28, 142), (142, .bipush 7, 144), (144, .aload_n 0, 145), (145, .getfield 12, 148), (148, .invokevirtual 94, 151), (151, .invokestatic 79, 154), (154, .return_, 155)] : List (Nat × Instr × Nat)).all (fun q => decide (pm_code 32 q.1 = some q.2)) = true := by decide +kernel
theorem c32_77 : pm_code 32 77 = some (.aload_n 0, 78) := pm_of cl32_1 0 (q := (77, .aload_n 0, 78)) rfl
theorem c32_78 : pm_code 32 78 = some (.getfield 28, 81) := pm_of cl32_1 1 (q := (78, .getfield 28, 81)) rfl
theorem c32_81 : pm_code 32 81 = some (.iconst 4, 82) := pm_of cl32_1 2 (q := (81, .iconst 4, 82)) rfl
theorem c32_82 : pm_code 32 82 = some (.aload_n 0, 83) := pm_of cl32_1 3 (q := (82, .aload_n 0, 83)) rfl
theorem c32_83 : pm_code 32 83 = some (.getfield 41, 86) := pm_of cl32_1 4 (q := (83, .getfield 41, 86)) rfl
theorem c32_86 : pm_code 32 86 = some (.iload_n 1, 87) := pm_of cl32_1 5 (q := (86, .iload_n 1, 87)) rfl
theorem c32_87 : pm_code 32 87 = some (.invokevirtual 86, 90) := pm_of cl32_1 6 (q := (87, .invokevirtual 86, 90)) rfl
theorem c32_90 : pm_code 32 90 = some (.invokestatic 89, 93) := pm_of cl32_1 7 (q := (90, .invokestatic 89, 93)) rfl
theorem c32_93 : pm_code 32 93 = some (.invokestatic 79, 96) := pm_of cl32_1 8 (q := (93, .invokestatic 79, 96)) rfl
theorem c32_96 : pm_code 32 96 = some (.aload_n 0, 97) := pm_of cl32_1 9 (q := (96, .aload_n 0, 97)) rfl
theorem c32_97 : pm_code 32 97 = some (.getfield 28, 100) := pm_of cl32_1 10 (q := (97, .getfield 28, 100)) rfl
theorem c32_100 : pm_code 32 100 = some (.iconst 5, 101) := pm_of cl32_1 11 (q := (100, .iconst 5, 101)) rfl
theorem c32_101 : pm_code 32 101 = some (.aload_n 0, 102) := pm_of cl32_1 12 (q := (101, .aload_n 0, 102)) rfl
theorem c32_102 : pm_code 32 102 = some (.getfield 12, 105) := pm_of cl32_1 13 (q := (102, .getfield 12, 105)) rfl
theorem c32_105 : pm_code 32 105 = some (.iconst 5, 106) := pm_of cl32_1 14 (q := (105, .iconst 5, 106)) rfl
theorem c32_106 : pm_code 32 106 = some (.iload_n 1, 107) := pm_of cl32_1 15 (q := (106, .iload_n 1, 107)) rfl
theorem c32_107 : pm_code 32 107 = some (.invokevirtual 52, 110) := pm_of cl32_1 16 (q := (107, .invokevirtual 52, 110)) rfl
theorem c32_110 : pm_code 32 110 = some (.invokestatic 79, 113) := pm_of cl32_1 17 (q := (110, .invokestatic 79, 113)) rfl
theorem c32_113 : pm_code 32 113 = some (.aload_n 0, 114) := pm_of cl32_1 18 (q := (113, .aload_n 0, 114)) rfl
theorem c32_114 : pm_code 32 114 = some (.getfield 28, 117) := pm_of cl32_1 19 (q := (114, .getfield 28, 117)) rfl
theorem c32_117 : pm_code 32 117 = some (.bipush 6, 119) := pm_of cl32_1 20 (q := (117, .bipush 6, 119)) rfl
theorem c32_119 : pm_code 32 119 = some (.iload_n 2, 120) := pm_of cl32_1 21 (q := (119, .iload_n 2, 120)) rfl
theorem c32_120 : pm_code 32 120 = some (.iconst (-1), 121) := pm_of cl32_1 22 (q := (120, .iconst (-1), 121)) rfl
theorem c32_121 : pm_code 32 121 = some (.if_icmp .ne 13, 124) := pm_of cl32_1 23 (q := (121, .if_icmp .ne 13, 124)) rfl
theorem c32_124 : pm_code 32 124 = some (.aload_n 0, 125) := pm_of cl32_1 24 (q := (124, .aload_n 0, 125)) rfl
theorem c32_125 : pm_code 32 125 = some (.getfield 12, 128) := pm_of cl32_1 25 (q := (125, .getfield 12, 128)) rfl
theorem c32_128 : pm_code 32 128 = some (.invokevirtual 94, 131) := pm_of cl32_1 26 (q := (128, .invokevirtual 94, 131)) rfl
theorem c32_131 : pm_code 32 131 = some (.goto 4, 134) := pm_of cl32_1 27 (q := (131, .goto 4, 134)) rfl
theorem c32_134 : pm_code 32 134 = some (.iload_n 2, 135) := pm_of cl32_1 28 (q := (134, .iload_n 2, 135)) rfl
theorem c32_135 : pm_code 32 135 = some (.invokestatic 79, 138) := pm_of cl32_1 29 (q := (135, .invokestatic 79, 138)) rfl
theorem c32_138 : pm_code 32 138 = some (.aload_n 0, 139) := pm_of cl32_1 30 (q := (138, .aload_n 0, 139)) rfl
theorem c32_139 : pm_code 32 139 = some (.getfield 28, 142) := pm_of cl32_1 31 (q := (139, .getfield 28, 142)) rfl
theorem c32_142 : pm_code 32 142 = some (.bipush 7, 144) := pm_of cl32_1 32 (q := (142, .bipush 7, 144)) rfl
theorem c32_144 : pm_code 32 144 = some (.aload_n 0, 145) := pm_of cl32_1 33 (q := (144, .aload_n 0, 145)) rfl
theorem c32_145 : pm_code 32 145 = some (.getfield 12, 148) := pm_of cl32_1 34 (q := (145, .getfield 12, 148)) rfl
theorem c32_148 : pm_code 32 148 = some (.invokevirtual 94, 151) := pm_of cl32_1 35 (q := (148, .invokevirtual 94, 151)) rfl
theorem c32_151 : pm_code 32 151 = some (.invokestatic 79, 154) := pm_of cl32_1 36 (q := (151, .invokestatic 79, 154)) rfl
theorem c32_154 : pm_code 32 154 = some (.return_, 155) := pm_of cl32_1 37 (q := (154, .return_, 155)) rfl
theorem k33 : pm_k 33 = 3 := by decide +kernel
theorem ml33 : pm_ml 33 = 2 := by decide +kernel
theorem rt33 : pm_rt 33 = (some (.object "PassagePapers$Law")) := by decide +kernel
theorem hh33 : pm_hh 33 = [] := by decide +kernel
theorem rc33 : pm_cl 3 = (pm_y 33).cls := by decide +kernel
theorem cl33_0 : ([(0, .iload_n 1, 1), (1, .ifCond .ne 10, 4), (4, .aload_n 0, 5), (5, .getfield 21, 8), (8, .goto 7, 11), (11, .aload_n 0, 12), (12, .getfield 25, 15), (15, .areturn, 16)] : List (Nat × Instr × Nat)).all (fun q => decide (pm_code 33 q.1 = some q.2)) = true := by decide +kernel
theorem c33_0 : pm_code 33 0 = some (.iload_n 1, 1) := pm_of cl33_0 0 (q := (0, .iload_n 1, 1)) rfl
theorem c33_1 : pm_code 33 1 = some (.ifCond .ne 10, 4) := pm_of cl33_0 1 (q := (1, .ifCond .ne 10, 4)) rfl
theorem c33_4 : pm_code 33 4 = some (.aload_n 0, 5) := pm_of cl33_0 2 (q := (4, .aload_n 0, 5)) rfl
theorem c33_5 : pm_code 33 5 = some (.getfield 21, 8) := pm_of cl33_0 3 (q := (5, .getfield 21, 8)) rfl
theorem c33_8 : pm_code 33 8 = some (.goto 7, 11) := pm_of cl33_0 4 (q := (8, .goto 7, 11)) rfl
theorem c33_11 : pm_code 33 11 = some (.aload_n 0, 12) := pm_of cl33_0 5 (q := (11, .aload_n 0, 12)) rfl
theorem c33_12 : pm_code 33 12 = some (.getfield 25, 15) := pm_of cl33_0 6 (q := (12, .getfield 25, 15)) rfl
theorem c33_15 : pm_code 33 15 = some (.areturn, 16) := pm_of cl33_0 7 (q := (15, .areturn, 16)) rfl
theorem k34 : pm_k 34 = 3 := by decide +kernel
theorem ml34 : pm_ml 34 = 4 := by decide +kernel
theorem rt34 : pm_rt 34 = (some .int) := by decide +kernel
theorem hh34 : pm_hh 34 = [] := by decide +kernel
theorem rc34 : pm_cl 3 = (pm_y 34).cls := by decide +kernel
theorem cl34_0 : ([(0, .iconst 0, 1), (1, .istore_n 1, 2), (2, .iconst 0, 3), (3, .istore_n 2, 4), (4, .iload_n 2, 5), (5, .aload_n 0, 6), (6, .getfield 41, 9), (9, .invokevirtual 56, 12), (12, .if_icmp .ge 42, 15), (15, .iload_n 2, 16), (16, .iconst 1, 17), (17, .iadd, 18), (18, .istore_n 3, 19), (19, .iload_n 3, 20), (20, .aload_n 0, 21), (21, .getfield 41, 24), (24, .invokevirtual 56, 27), (27, .if_icmp .ge 21, 30), (30, .aload_n 0, 31), (31, .iload_n 2, 32), (32, .iload_n 3, 33), (33, .invokevirtual 125, 36), (36, .ifCond .eq 6, 39), (39, .iinc 1 1, 42), (42, .iinc 3 1, 45), (45, .goto (-26), 48), (48, .iinc 2 1, 51), (51, .goto (-47), 54), (54, .iload_n 1, 55), (55, .ireturn, 56)] : List (Nat × Instr × Nat)).all (fun q => decide (pm_code 34 q.1 = some q.2)) = true := by decide +kernel
theorem c34_0 : pm_code 34 0 = some (.iconst 0, 1) := pm_of cl34_0 0 (q := (0, .iconst 0, 1)) rfl
theorem c34_1 : pm_code 34 1 = some (.istore_n 1, 2) := pm_of cl34_0 1 (q := (1, .istore_n 1, 2)) rfl
theorem c34_2 : pm_code 34 2 = some (.iconst 0, 3) := pm_of cl34_0 2 (q := (2, .iconst 0, 3)) rfl
theorem c34_3 : pm_code 34 3 = some (.istore_n 2, 4) := pm_of cl34_0 3 (q := (3, .istore_n 2, 4)) rfl
theorem c34_4 : pm_code 34 4 = some (.iload_n 2, 5) := pm_of cl34_0 4 (q := (4, .iload_n 2, 5)) rfl
theorem c34_5 : pm_code 34 5 = some (.aload_n 0, 6) := pm_of cl34_0 5 (q := (5, .aload_n 0, 6)) rfl
theorem c34_6 : pm_code 34 6 = some (.getfield 41, 9) := pm_of cl34_0 6 (q := (6, .getfield 41, 9)) rfl
theorem c34_9 : pm_code 34 9 = some (.invokevirtual 56, 12) := pm_of cl34_0 7 (q := (9, .invokevirtual 56, 12)) rfl
theorem c34_12 : pm_code 34 12 = some (.if_icmp .ge 42, 15) := pm_of cl34_0 8 (q := (12, .if_icmp .ge 42, 15)) rfl
theorem c34_15 : pm_code 34 15 = some (.iload_n 2, 16) := pm_of cl34_0 9 (q := (15, .iload_n 2, 16)) rfl
theorem c34_16 : pm_code 34 16 = some (.iconst 1, 17) := pm_of cl34_0 10 (q := (16, .iconst 1, 17)) rfl
theorem c34_17 : pm_code 34 17 = some (.iadd, 18) := pm_of cl34_0 11 (q := (17, .iadd, 18)) rfl
theorem c34_18 : pm_code 34 18 = some (.istore_n 3, 19) := pm_of cl34_0 12 (q := (18, .istore_n 3, 19)) rfl
theorem c34_19 : pm_code 34 19 = some (.iload_n 3, 20) := pm_of cl34_0 13 (q := (19, .iload_n 3, 20)) rfl
theorem c34_20 : pm_code 34 20 = some (.aload_n 0, 21) := pm_of cl34_0 14 (q := (20, .aload_n 0, 21)) rfl
theorem c34_21 : pm_code 34 21 = some (.getfield 41, 24) := pm_of cl34_0 15 (q := (21, .getfield 41, 24)) rfl
theorem c34_24 : pm_code 34 24 = some (.invokevirtual 56, 27) := pm_of cl34_0 16 (q := (24, .invokevirtual 56, 27)) rfl
theorem c34_27 : pm_code 34 27 = some (.if_icmp .ge 21, 30) := pm_of cl34_0 17 (q := (27, .if_icmp .ge 21, 30)) rfl
theorem c34_30 : pm_code 34 30 = some (.aload_n 0, 31) := pm_of cl34_0 18 (q := (30, .aload_n 0, 31)) rfl
theorem c34_31 : pm_code 34 31 = some (.iload_n 2, 32) := pm_of cl34_0 19 (q := (31, .iload_n 2, 32)) rfl
theorem c34_32 : pm_code 34 32 = some (.iload_n 3, 33) := pm_of cl34_0 20 (q := (32, .iload_n 3, 33)) rfl
theorem c34_33 : pm_code 34 33 = some (.invokevirtual 125, 36) := pm_of cl34_0 21 (q := (33, .invokevirtual 125, 36)) rfl
theorem c34_36 : pm_code 34 36 = some (.ifCond .eq 6, 39) := pm_of cl34_0 22 (q := (36, .ifCond .eq 6, 39)) rfl
theorem c34_39 : pm_code 34 39 = some (.iinc 1 1, 42) := pm_of cl34_0 23 (q := (39, .iinc 1 1, 42)) rfl
theorem c34_42 : pm_code 34 42 = some (.iinc 3 1, 45) := pm_of cl34_0 24 (q := (42, .iinc 3 1, 45)) rfl
theorem c34_45 : pm_code 34 45 = some (.goto (-26), 48) := pm_of cl34_0 25 (q := (45, .goto (-26), 48)) rfl
theorem c34_48 : pm_code 34 48 = some (.iinc 2 1, 51) := pm_of cl34_0 26 (q := (48, .iinc 2 1, 51)) rfl
theorem c34_51 : pm_code 34 51 = some (.goto (-47), 54) := pm_of cl34_0 27 (q := (51, .goto (-47), 54)) rfl
theorem c34_54 : pm_code 34 54 = some (.iload_n 1, 55) := pm_of cl34_0 28 (q := (54, .iload_n 1, 55)) rfl
theorem c34_55 : pm_code 34 55 = some (.ireturn, 56) := pm_of cl34_0 29 (q := (55, .ireturn, 56)) rfl
theorem k35 : pm_k 35 = 3 := by decide +kernel
theorem ml35 : pm_ml 35 = 3 := by decide +kernel
theorem rt35 : pm_rt 35 = (some .boolean) := by decide +kernel
theorem hh35 : pm_hh 35 = [] := by decide +kernel
theorem rc35 : pm_cl 3 = (pm_y 35).cls := by decide +kernel
theorem cl35_0 : ([(0, .aload_n 0, 1), (1, .getfield 41, 4), (4, .iload_n 1, 5), (5, .iload_n 2, 6), (6, .invokevirtual 128, 9), (9, .ifCond .eq 46, 12), (12, .aload_n 0, 13), (13, .iload_n 1, 14), (14, .iconst 2, 15), (15, .invokevirtual 60, 18), (18, .ifCond .eq 37, 21), (21, .aload_n 0, 22), (22, .iload_n 2, 23), (23, .iconst 2, 24), (24, .invokevirtual 60, 27), (27, .ifCond .eq 28, 30), (30, .aload_n 0, 31), (31, .getfield 12, 34), (34, .iconst 1, 35), (35, .iload_n 1, 36), (36, .invokevirtual 52, 39), (39, .aload_n 0, 40), (40, .getfield 12, 43), (43, .iconst 1, 44), (44, .iload_n 2, 45), (45, .invokevirtual 52, 48), (48, .if_icmp .eq 7, 51), (51, .iconst 1, 52), (52, .goto 4, 55), (55, .iconst 0, 56), (56, .ireturn, 57)] : List (Nat × Instr × Nat)).all (fun q => decide (pm_code 35 q.1 = some q.2)) = true := by decide +kernel
theorem c35_0 : pm_code 35 0 = some (.aload_n 0, 1) := pm_of cl35_0 0 (q := (0, .aload_n 0, 1)) rfl
theorem c35_1 : pm_code 35 1 = some (.getfield 41, 4) := pm_of cl35_0 1 (q := (1, .getfield 41, 4)) rfl
theorem c35_4 : pm_code 35 4 = some (.iload_n 1, 5) := pm_of cl35_0 2 (q := (4, .iload_n 1, 5)) rfl
theorem c35_5 : pm_code 35 5 = some (.iload_n 2, 6) := pm_of cl35_0 3 (q := (5, .iload_n 2, 6)) rfl
theorem c35_6 : pm_code 35 6 = some (.invokevirtual 128, 9) := pm_of cl35_0 4 (q := (6, .invokevirtual 128, 9)) rfl
theorem c35_9 : pm_code 35 9 = some (.ifCond .eq 46, 12) := pm_of cl35_0 5 (q := (9, .ifCond .eq 46, 12)) rfl
theorem c35_12 : pm_code 35 12 = some (.aload_n 0, 13) := pm_of cl35_0 6 (q := (12, .aload_n 0, 13)) rfl
theorem c35_13 : pm_code 35 13 = some (.iload_n 1, 14) := pm_of cl35_0 7 (q := (13, .iload_n 1, 14)) rfl
theorem c35_14 : pm_code 35 14 = some (.iconst 2, 15) := pm_of cl35_0 8 (q := (14, .iconst 2, 15)) rfl
theorem c35_15 : pm_code 35 15 = some (.invokevirtual 60, 18) := pm_of cl35_0 9 (q := (15, .invokevirtual 60, 18)) rfl
theorem c35_18 : pm_code 35 18 = some (.ifCond .eq 37, 21) := pm_of cl35_0 10 (q := (18, .ifCond .eq 37, 21)) rfl
theorem c35_21 : pm_code 35 21 = some (.aload_n 0, 22) := pm_of cl35_0 11 (q := (21, .aload_n 0, 22)) rfl
theorem c35_22 : pm_code 35 22 = some (.iload_n 2, 23) := pm_of cl35_0 12 (q := (22, .iload_n 2, 23)) rfl
theorem c35_23 : pm_code 35 23 = some (.iconst 2, 24) := pm_of cl35_0 13 (q := (23, .iconst 2, 24)) rfl
theorem c35_24 : pm_code 35 24 = some (.invokevirtual 60, 27) := pm_of cl35_0 14 (q := (24, .invokevirtual 60, 27)) rfl
theorem c35_27 : pm_code 35 27 = some (.ifCond .eq 28, 30) := pm_of cl35_0 15 (q := (27, .ifCond .eq 28, 30)) rfl
theorem c35_30 : pm_code 35 30 = some (.aload_n 0, 31) := pm_of cl35_0 16 (q := (30, .aload_n 0, 31)) rfl
theorem c35_31 : pm_code 35 31 = some (.getfield 12, 34) := pm_of cl35_0 17 (q := (31, .getfield 12, 34)) rfl
theorem c35_34 : pm_code 35 34 = some (.iconst 1, 35) := pm_of cl35_0 18 (q := (34, .iconst 1, 35)) rfl
theorem c35_35 : pm_code 35 35 = some (.iload_n 1, 36) := pm_of cl35_0 19 (q := (35, .iload_n 1, 36)) rfl
theorem c35_36 : pm_code 35 36 = some (.invokevirtual 52, 39) := pm_of cl35_0 20 (q := (36, .invokevirtual 52, 39)) rfl
theorem c35_39 : pm_code 35 39 = some (.aload_n 0, 40) := pm_of cl35_0 21 (q := (39, .aload_n 0, 40)) rfl
theorem c35_40 : pm_code 35 40 = some (.getfield 12, 43) := pm_of cl35_0 22 (q := (40, .getfield 12, 43)) rfl
theorem c35_43 : pm_code 35 43 = some (.iconst 1, 44) := pm_of cl35_0 23 (q := (43, .iconst 1, 44)) rfl
theorem c35_44 : pm_code 35 44 = some (.iload_n 2, 45) := pm_of cl35_0 24 (q := (44, .iload_n 2, 45)) rfl
theorem c35_45 : pm_code 35 45 = some (.invokevirtual 52, 48) := pm_of cl35_0 25 (q := (45, .invokevirtual 52, 48)) rfl
theorem c35_48 : pm_code 35 48 = some (.if_icmp .eq 7, 51) := pm_of cl35_0 26 (q := (48, .if_icmp .eq 7, 51)) rfl
theorem c35_51 : pm_code 35 51 = some (.iconst 1, 52) := pm_of cl35_0 27 (q := (51, .iconst 1, 52)) rfl
theorem c35_52 : pm_code 35 52 = some (.goto 4, 55) := pm_of cl35_0 28 (q := (52, .goto 4, 55)) rfl
theorem c35_55 : pm_code 35 55 = some (.iconst 0, 56) := pm_of cl35_0 29 (q := (55, .iconst 0, 56)) rfl
theorem c35_56 : pm_code 35 56 = some (.ireturn, 57) := pm_of cl35_0 30 (q := (56, .ireturn, 57)) rfl
theorem k36 : pm_k 36 = 3 := by decide +kernel
theorem ml36 : pm_ml 36 = 4 := by decide +kernel
theorem rt36 : pm_rt 36 = (some .int) := by decide +kernel
theorem hh36 : pm_hh 36 = [] := by decide +kernel
theorem rc36 : pm_cl 3 = (pm_y 36).cls := by decide +kernel
theorem cl36_0 : ([(0, .iconst 0, 1), (1, .istore_n 2, 2), (2, .iconst 0, 3), (3, .istore_n 3, 4), (4, .iload_n 3, 5), (5, .aload_n 0, 6), (6, .getfield 41, 9), (9, .invokevirtual 56, 12), (12, .if_icmp .ge 21, 15), (15, .aload_n 0, 16), (16, .iload_n 3, 17), (17, .iload_n 1, 18), (18, .invokevirtual 60, 21), (21, .ifCond .eq 6, 24), (24, .iinc 2 1, 27), (27, .iinc 3 1, 30), (30, .goto (-26), 33), (33, .iload_n 2, 34), (34, .ireturn, 35)] : List (Nat × Instr × Nat)).all (fun q => decide (pm_code 36 q.1 = some q.2)) = true := by decide +kernel
theorem c36_0 : pm_code 36 0 = some (.iconst 0, 1) := pm_of cl36_0 0 (q := (0, .iconst 0, 1)) rfl
theorem c36_1 : pm_code 36 1 = some (.istore_n 2, 2) := pm_of cl36_0 1 (q := (1, .istore_n 2, 2)) rfl
theorem c36_2 : pm_code 36 2 = some (.iconst 0, 3) := pm_of cl36_0 2 (q := (2, .iconst 0, 3)) rfl
theorem c36_3 : pm_code 36 3 = some (.istore_n 3, 4) := pm_of cl36_0 3 (q := (3, .istore_n 3, 4)) rfl
theorem c36_4 : pm_code 36 4 = some (.iload_n 3, 5) := pm_of cl36_0 4 (q := (4, .iload_n 3, 5)) rfl
theorem c36_5 : pm_code 36 5 = some (.aload_n 0, 6) := pm_of cl36_0 5 (q := (5, .aload_n 0, 6)) rfl
theorem c36_6 : pm_code 36 6 = some (.getfield 41, 9) := pm_of cl36_0 6 (q := (6, .getfield 41, 9)) rfl
theorem c36_9 : pm_code 36 9 = some (.invokevirtual 56, 12) := pm_of cl36_0 7 (q := (9, .invokevirtual 56, 12)) rfl
theorem c36_12 : pm_code 36 12 = some (.if_icmp .ge 21, 15) := pm_of cl36_0 8 (q := (12, .if_icmp .ge 21, 15)) rfl
theorem c36_15 : pm_code 36 15 = some (.aload_n 0, 16) := pm_of cl36_0 9 (q := (15, .aload_n 0, 16)) rfl
theorem c36_16 : pm_code 36 16 = some (.iload_n 3, 17) := pm_of cl36_0 10 (q := (16, .iload_n 3, 17)) rfl
theorem c36_17 : pm_code 36 17 = some (.iload_n 1, 18) := pm_of cl36_0 11 (q := (17, .iload_n 1, 18)) rfl
theorem c36_18 : pm_code 36 18 = some (.invokevirtual 60, 21) := pm_of cl36_0 12 (q := (18, .invokevirtual 60, 21)) rfl
theorem c36_21 : pm_code 36 21 = some (.ifCond .eq 6, 24) := pm_of cl36_0 13 (q := (21, .ifCond .eq 6, 24)) rfl
theorem c36_24 : pm_code 36 24 = some (.iinc 2 1, 27) := pm_of cl36_0 14 (q := (24, .iinc 2 1, 27)) rfl
theorem c36_27 : pm_code 36 27 = some (.iinc 3 1, 30) := pm_of cl36_0 15 (q := (27, .iinc 3 1, 30)) rfl
theorem c36_30 : pm_code 36 30 = some (.goto (-26), 33) := pm_of cl36_0 16 (q := (30, .goto (-26), 33)) rfl
theorem c36_33 : pm_code 36 33 = some (.iload_n 2, 34) := pm_of cl36_0 17 (q := (33, .iload_n 2, 34)) rfl
theorem c36_34 : pm_code 36 34 = some (.ireturn, 35) := pm_of cl36_0 18 (q := (34, .ireturn, 35)) rfl
theorem k37 : pm_k 37 = 3 := by decide +kernel
theorem ml37 : pm_ml 37 = 1 := by decide +kernel
theorem rt37 : pm_rt 37 = (some (.object "PassagePapers$Register")) := by decide +kernel
theorem hh37 : pm_hh 37 = [] := by decide +kernel
theorem rc37 : pm_cl 3 = (pm_y 37).cls := by decide +kernel
theorem cl37_0 : ([(0, .aload_n 0, 1), (1, .getfield 41, 4), (4, .areturn, 5)] : List (Nat × Instr × Nat)).all (fun q => decide (pm_code 37 q.1 = some q.2)) = true := by decide +kernel
theorem c37_0 : pm_code 37 0 = some (.aload_n 0, 1) := pm_of cl37_0 0 (q := (0, .aload_n 0, 1)) rfl
theorem c37_1 : pm_code 37 1 = some (.getfield 41, 4) := pm_of cl37_0 1 (q := (1, .getfield 41, 4)) rfl
theorem c37_4 : pm_code 37 4 = some (.areturn, 5) := pm_of cl37_0 2 (q := (4, .areturn, 5)) rfl
theorem k38 : pm_k 38 = 3 := by decide +kernel
theorem ml38 : pm_ml 38 = 2 := by decide +kernel
theorem rt38 : pm_rt 38 = none := by decide +kernel
theorem hh38 : pm_hh 38 = [] := by decide +kernel
theorem rc38 : pm_cl 3 = (pm_y 38).cls := by decide +kernel
theorem cl38_0 : ([(0, .aload_n 0, 1), (1, .aload_n 1, 2), (2, .putfield 41, 5), (5, .aload_n 0, 6), (6, .getfield 21, 9), (9, .invokevirtual 49, 12), (12, .aload_n 0, 13), (13, .getfield 25, 16), (16, .invokevirtual 49, 19), (19, .aload_n 0, 20), (20, .getfield 12, 23), (23, .aload_n 1, 24), (24, .invokevirtual 45, 27), (27, .return_, 28)] : List (Nat × Instr × Nat)).all (fun q => decide (pm_code 38 q.1 = some q.2)) = true := by decide +kernel
theorem c38_0 : pm_code 38 0 = some (.aload_n 0, 1) := pm_of cl38_0 0 (q := (0, .aload_n 0, 1)) rfl
theorem c38_1 : pm_code 38 1 = some (.aload_n 1, 2) := pm_of cl38_0 1 (q := (1, .aload_n 1, 2)) rfl
theorem c38_2 : pm_code 38 2 = some (.putfield 41, 5) := pm_of cl38_0 2 (q := (2, .putfield 41, 5)) rfl
theorem c38_5 : pm_code 38 5 = some (.aload_n 0, 6) := pm_of cl38_0 3 (q := (5, .aload_n 0, 6)) rfl
theorem c38_6 : pm_code 38 6 = some (.getfield 21, 9) := pm_of cl38_0 4 (q := (6, .getfield 21, 9)) rfl
theorem c38_9 : pm_code 38 9 = some (.invokevirtual 49, 12) := pm_of cl38_0 5 (q := (9, .invokevirtual 49, 12)) rfl
theorem c38_12 : pm_code 38 12 = some (.aload_n 0, 13) := pm_of cl38_0 6 (q := (12, .aload_n 0, 13)) rfl
theorem c38_13 : pm_code 38 13 = some (.getfield 25, 16) := pm_of cl38_0 7 (q := (13, .getfield 25, 16)) rfl
theorem c38_16 : pm_code 38 16 = some (.invokevirtual 49, 19) := pm_of cl38_0 8 (q := (16, .invokevirtual 49, 19)) rfl
theorem c38_19 : pm_code 38 19 = some (.aload_n 0, 20) := pm_of cl38_0 9 (q := (19, .aload_n 0, 20)) rfl
theorem c38_20 : pm_code 38 20 = some (.getfield 12, 23) := pm_of cl38_0 10 (q := (20, .getfield 12, 23)) rfl
theorem c38_23 : pm_code 38 23 = some (.aload_n 1, 24) := pm_of cl38_0 11 (q := (23, .aload_n 1, 24)) rfl
theorem c38_24 : pm_code 38 24 = some (.invokevirtual 45, 27) := pm_of cl38_0 12 (q := (24, .invokevirtual 45, 27)) rfl
theorem c38_27 : pm_code 38 27 = some (.return_, 28) := pm_of cl38_0 13 (q := (27, .return_, 28)) rfl
theorem k39 : pm_k 39 = 3 := by decide +kernel
theorem ml39 : pm_ml 39 = 4 := by decide +kernel
theorem rt39 : pm_rt 39 = (some .boolean) := by decide +kernel
theorem hh39 : pm_hh 39 = [] := by decide +kernel
theorem rc39 : pm_cl 3 = (pm_y 39).cls := by decide +kernel
theorem cl39_0 : ([(0, .iload_n 1, 1), (1, .tableswitch 97 0 7 #[47, 52, 59, 66, 72, 79, 86, 92], 48), (48, .aload_n 0, 49), (49, .invokevirtual 144, 52), (52, .ireturn, 53), (53, .aload_n 0, 54), (54, .iload_n 2, 55), (55, .iload_n 3, 56), (56, .invokevirtual 148, 59), (59, .ireturn, 60), (60, .aload_n 0, 61), (61, .iload_n 2, 62), (62, .iload_n 3, 63), (63, .invokevirtual 151, 66), (66, .ireturn, 67), (67, .aload_n 0, 68), (68, .iload_n 2, 69), (69, .invokevirtual 154, 72), (72, .ireturn, 73), (73, .aload_n 0, 74), (74, .iload_n 2, 75), (75, .iconst 1, 76), (76, .invokevirtual 158, 79), (79, .ireturn, 80), (80, .aload_n 0, 81), (81, .iload_n 2, 82), (82, .iconst 0, 83), (83, .invokevirtual 158, 86), (86, .ireturn, 87), (87, .aload_n 0, 88), (88, .iload_n 2, 89), (89, .invokevirtual 161, 92), (92, .ireturn, 93), (93, .aload_n 0, 94), (94, .invokevirtual 164, 97), (97, .ireturn, 98), (98, .iconst 0, 99), (99, .ireturn, 100)] : List (Nat × Instr × Nat)).all (fun q => decide (pm_code 39 q.1 = some q.2)) = true := by decide +kernel
theorem c39_0 : pm_code 39 0 = some (.iload_n 1, 1) := pm_of cl39_0 0 (q := (0, .iload_n 1, 1)) rfl
theorem c39_1 : pm_code 39 1 = some (.tableswitch 97 0 7 #[47, 52, 59, 66, 72, 79, 86, 92], 48) := pm_of cl39_0 1 (q := (1, .tableswitch 97 0 7 #[47, 52, 59, 66, 72, 79, 86, 92], 48)) rfl
theorem c39_48 : pm_code 39 48 = some (.aload_n 0, 49) := pm_of cl39_0 2 (q := (48, .aload_n 0, 49)) rfl
theorem c39_49 : pm_code 39 49 = some (.invokevirtual 144, 52) := pm_of cl39_0 3 (q := (49, .invokevirtual 144, 52)) rfl
theorem c39_52 : pm_code 39 52 = some (.ireturn, 53) := pm_of cl39_0 4 (q := (52, .ireturn, 53)) rfl
theorem c39_53 : pm_code 39 53 = some (.aload_n 0, 54) := pm_of cl39_0 5 (q := (53, .aload_n 0, 54)) rfl
theorem c39_54 : pm_code 39 54 = some (.iload_n 2, 55) := pm_of cl39_0 6 (q := (54, .iload_n 2, 55)) rfl
theorem c39_55 : pm_code 39 55 = some (.iload_n 3, 56) := pm_of cl39_0 7 (q := (55, .iload_n 3, 56)) rfl
theorem c39_56 : pm_code 39 56 = some (.invokevirtual 148, 59) := pm_of cl39_0 8 (q := (56, .invokevirtual 148, 59)) rfl
theorem c39_59 : pm_code 39 59 = some (.ireturn, 60) := pm_of cl39_0 9 (q := (59, .ireturn, 60)) rfl
theorem c39_60 : pm_code 39 60 = some (.aload_n 0, 61) := pm_of cl39_0 10 (q := (60, .aload_n 0, 61)) rfl
theorem c39_61 : pm_code 39 61 = some (.iload_n 2, 62) := pm_of cl39_0 11 (q := (61, .iload_n 2, 62)) rfl
theorem c39_62 : pm_code 39 62 = some (.iload_n 3, 63) := pm_of cl39_0 12 (q := (62, .iload_n 3, 63)) rfl
theorem c39_63 : pm_code 39 63 = some (.invokevirtual 151, 66) := pm_of cl39_0 13 (q := (63, .invokevirtual 151, 66)) rfl
theorem c39_66 : pm_code 39 66 = some (.ireturn, 67) := pm_of cl39_0 14 (q := (66, .ireturn, 67)) rfl
theorem c39_67 : pm_code 39 67 = some (.aload_n 0, 68) := pm_of cl39_0 15 (q := (67, .aload_n 0, 68)) rfl
theorem c39_68 : pm_code 39 68 = some (.iload_n 2, 69) := pm_of cl39_0 16 (q := (68, .iload_n 2, 69)) rfl
theorem c39_69 : pm_code 39 69 = some (.invokevirtual 154, 72) := pm_of cl39_0 17 (q := (69, .invokevirtual 154, 72)) rfl
theorem c39_72 : pm_code 39 72 = some (.ireturn, 73) := pm_of cl39_0 18 (q := (72, .ireturn, 73)) rfl
theorem c39_73 : pm_code 39 73 = some (.aload_n 0, 74) := pm_of cl39_0 19 (q := (73, .aload_n 0, 74)) rfl
theorem c39_74 : pm_code 39 74 = some (.iload_n 2, 75) := pm_of cl39_0 20 (q := (74, .iload_n 2, 75)) rfl
theorem c39_75 : pm_code 39 75 = some (.iconst 1, 76) := pm_of cl39_0 21 (q := (75, .iconst 1, 76)) rfl
theorem c39_76 : pm_code 39 76 = some (.invokevirtual 158, 79) := pm_of cl39_0 22 (q := (76, .invokevirtual 158, 79)) rfl
theorem c39_79 : pm_code 39 79 = some (.ireturn, 80) := pm_of cl39_0 23 (q := (79, .ireturn, 80)) rfl
theorem c39_80 : pm_code 39 80 = some (.aload_n 0, 81) := pm_of cl39_0 24 (q := (80, .aload_n 0, 81)) rfl
theorem c39_81 : pm_code 39 81 = some (.iload_n 2, 82) := pm_of cl39_0 25 (q := (81, .iload_n 2, 82)) rfl
theorem c39_82 : pm_code 39 82 = some (.iconst 0, 83) := pm_of cl39_0 26 (q := (82, .iconst 0, 83)) rfl
theorem c39_83 : pm_code 39 83 = some (.invokevirtual 158, 86) := pm_of cl39_0 27 (q := (83, .invokevirtual 158, 86)) rfl
theorem c39_86 : pm_code 39 86 = some (.ireturn, 87) := pm_of cl39_0 28 (q := (86, .ireturn, 87)) rfl
theorem c39_87 : pm_code 39 87 = some (.aload_n 0, 88) := pm_of cl39_0 29 (q := (87, .aload_n 0, 88)) rfl
theorem c39_88 : pm_code 39 88 = some (.iload_n 2, 89) := pm_of cl39_0 30 (q := (88, .iload_n 2, 89)) rfl
theorem c39_89 : pm_code 39 89 = some (.invokevirtual 161, 92) := pm_of cl39_0 31 (q := (89, .invokevirtual 161, 92)) rfl
theorem c39_92 : pm_code 39 92 = some (.ireturn, 93) := pm_of cl39_0 32 (q := (92, .ireturn, 93)) rfl
theorem c39_93 : pm_code 39 93 = some (.aload_n 0, 94) := pm_of cl39_0 33 (q := (93, .aload_n 0, 94)) rfl
theorem c39_94 : pm_code 39 94 = some (.invokevirtual 164, 97) := pm_of cl39_0 34 (q := (94, .invokevirtual 164, 97)) rfl
theorem c39_97 : pm_code 39 97 = some (.ireturn, 98) := pm_of cl39_0 35 (q := (97, .ireturn, 98)) rfl
theorem c39_98 : pm_code 39 98 = some (.iconst 0, 99) := pm_of cl39_0 36 (q := (98, .iconst 0, 99)) rfl
theorem c39_99 : pm_code 39 99 = some (.ireturn, 100) := pm_of cl39_0 37 (q := (99, .ireturn, 100)) rfl
theorem k40 : pm_k 40 = 3 := by decide +kernel
theorem ml40 : pm_ml 40 = 2 := by decide +kernel
theorem rt40 : pm_rt 40 = (some .boolean) := by decide +kernel
theorem hh40 : pm_hh 40 = [] := by decide +kernel
theorem rc40 : pm_cl 3 = (pm_y 40).cls := by decide +kernel
theorem cl40_0 : ([(0, .aload_n 0, 1), (1, .iconst 0, 2), (2, .invokevirtual 112, 5), (5, .ifCond .eq 20, 8), (8, .aload_n 0, 9), (9, .getfield 12, 12), (12, .invokevirtual 94, 15), (15, .aload_n 0, 16), (16, .getfield 41, 19), (19, .invokevirtual 167, 22), (22, .if_icmp .ge 5, 25), (25, .iconst 0, 26), (26, .ireturn, 27), (27, .iconst 0, 28), (28, .istore_n 1, 29), (29, .iload_n 1, 30), (30, .aload_n 0, 31), (31, .getfield 41, 34), (34, .invokevirtual 56, 37), (37, .if_icmp .ge 28, 40), (40, .aload_n 0, 41), (41, .iload_n 1, 42), (42, .iconst 0, 43), (43, .invokevirtual 60, 46), (46, .ifCond .eq 13, 49), (49, .aload_n 0, 50), (50, .getfield 12, 53), (53, .iconst 0, 54), (54, .iload_n 1, 55), (55, .iconst 1, 56), (56, .invokevirtual 170, 59), (59, .iinc 1 1, 62), (62, .goto (-33), 65), (65, .iconst 1, 66), (66, .ireturn, 67)] : List (Nat × Instr × Nat)).all (fun q => decide (pm_code 40 q.1 = some q.2)) = true := by decide +kernel
theorem c40_0 : pm_code 40 0 = some (.aload_n 0, 1) := pm_of cl40_0 0 (q := (0, .aload_n 0, 1)) rfl
theorem c40_1 : pm_code 40 1 = some (.iconst 0, 2) := pm_of cl40_0 1 (q := (1, .iconst 0, 2)) rfl
theorem c40_2 : pm_code 40 2 = some (.invokevirtual 112, 5) := pm_of cl40_0 2 (q := (2, .invokevirtual 112, 5)) rfl
theorem c40_5 : pm_code 40 5 = some (.ifCond .eq 20, 8) := pm_of cl40_0 3 (q := (5, .ifCond .eq 20, 8)) rfl
theorem c40_8 : pm_code 40 8 = some (.aload_n 0, 9) := pm_of cl40_0 4 (q := (8, .aload_n 0, 9)) rfl
theorem c40_9 : pm_code 40 9 = some (.getfield 12, 12) := pm_of cl40_0 5 (q := (9, .getfield 12, 12)) rfl
theorem c40_12 : pm_code 40 12 = some (.invokevirtual 94, 15) := pm_of cl40_0 6 (q := (12, .invokevirtual 94, 15)) rfl
theorem c40_15 : pm_code 40 15 = some (.aload_n 0, 16) := pm_of cl40_0 7 (q := (15, .aload_n 0, 16)) rfl
theorem c40_16 : pm_code 40 16 = some (.getfield 41, 19) := pm_of cl40_0 8 (q := (16, .getfield 41, 19)) rfl
theorem c40_19 : pm_code 40 19 = some (.invokevirtual 167, 22) := pm_of cl40_0 9 (q := (19, .invokevirtual 167, 22)) rfl
theorem c40_22 : pm_code 40 22 = some (.if_icmp .ge 5, 25) := pm_of cl40_0 10 (q := (22, .if_icmp .ge 5, 25)) rfl
theorem c40_25 : pm_code 40 25 = some (.iconst 0, 26) := pm_of cl40_0 11 (q := (25, .iconst 0, 26)) rfl
theorem c40_26 : pm_code 40 26 = some (.ireturn, 27) := pm_of cl40_0 12 (q := (26, .ireturn, 27)) rfl
theorem c40_27 : pm_code 40 27 = some (.iconst 0, 28) := pm_of cl40_0 13 (q := (27, .iconst 0, 28)) rfl
theorem c40_28 : pm_code 40 28 = some (.istore_n 1, 29) := pm_of cl40_0 14 (q := (28, .istore_n 1, 29)) rfl
theorem c40_29 : pm_code 40 29 = some (.iload_n 1, 30) := pm_of cl40_0 15 (q := (29, .iload_n 1, 30)) rfl
theorem c40_30 : pm_code 40 30 = some (.aload_n 0, 31) := pm_of cl40_0 16 (q := (30, .aload_n 0, 31)) rfl
theorem c40_31 : pm_code 40 31 = some (.getfield 41, 34) := pm_of cl40_0 17 (q := (31, .getfield 41, 34)) rfl
theorem c40_34 : pm_code 40 34 = some (.invokevirtual 56, 37) := pm_of cl40_0 18 (q := (34, .invokevirtual 56, 37)) rfl
theorem c40_37 : pm_code 40 37 = some (.if_icmp .ge 28, 40) := pm_of cl40_0 19 (q := (37, .if_icmp .ge 28, 40)) rfl
theorem c40_40 : pm_code 40 40 = some (.aload_n 0, 41) := pm_of cl40_0 20 (q := (40, .aload_n 0, 41)) rfl
theorem c40_41 : pm_code 40 41 = some (.iload_n 1, 42) := pm_of cl40_0 21 (q := (41, .iload_n 1, 42)) rfl
theorem c40_42 : pm_code 40 42 = some (.iconst 0, 43) := pm_of cl40_0 22 (q := (42, .iconst 0, 43)) rfl
theorem c40_43 : pm_code 40 43 = some (.invokevirtual 60, 46) := pm_of cl40_0 23 (q := (43, .invokevirtual 60, 46)) rfl
theorem c40_46 : pm_code 40 46 = some (.ifCond .eq 13, 49) := pm_of cl40_0 24 (q := (46, .ifCond .eq 13, 49)) rfl
theorem c40_49 : pm_code 40 49 = some (.aload_n 0, 50) := pm_of cl40_0 25 (q := (49, .aload_n 0, 50)) rfl
theorem c40_50 : pm_code 40 50 = some (.getfield 12, 53) := pm_of cl40_0 26 (q := (50, .getfield 12, 53)) rfl
theorem c40_53 : pm_code 40 53 = some (.iconst 0, 54) := pm_of cl40_0 27 (q := (53, .iconst 0, 54)) rfl
theorem c40_54 : pm_code 40 54 = some (.iload_n 1, 55) := pm_of cl40_0 28 (q := (54, .iload_n 1, 55)) rfl
theorem c40_55 : pm_code 40 55 = some (.iconst 1, 56) := pm_of cl40_0 29 (q := (55, .iconst 1, 56)) rfl
theorem c40_56 : pm_code 40 56 = some (.invokevirtual 170, 59) := pm_of cl40_0 30 (q := (56, .invokevirtual 170, 59)) rfl
theorem c40_59 : pm_code 40 59 = some (.iinc 1 1, 62) := pm_of cl40_0 31 (q := (59, .iinc 1 1, 62)) rfl
theorem c40_62 : pm_code 40 62 = some (.goto (-33), 65) := pm_of cl40_0 32 (q := (62, .goto (-33), 65)) rfl
theorem c40_65 : pm_code 40 65 = some (.iconst 1, 66) := pm_of cl40_0 33 (q := (65, .iconst 1, 66)) rfl
theorem c40_66 : pm_code 40 66 = some (.ireturn, 67) := pm_of cl40_0 34 (q := (66, .ireturn, 67)) rfl
theorem k41 : pm_k 41 = 3 := by decide +kernel
theorem ml41 : pm_ml 41 = 3 := by decide +kernel
theorem rt41 : pm_rt 41 = (some .boolean) := by decide +kernel
theorem hh41 : pm_hh 41 = [] := by decide +kernel
theorem rc41 : pm_cl 3 = (pm_y 41).cls := by decide +kernel
theorem cl41_0 : ([(0, .aload_n 0, 1), (1, .iload_n 1, 2), (2, .iconst 1, 3), (3, .invokevirtual 60, 6), (6, .ifCond .eq 19, 9), (9, .aload_n 0, 10), (10, .iload_n 2, 11), (11, .invokevirtual 68, 14), (14, .aload_n 0, 15), (15, .getfield 41, 18), (18, .iload_n 2, 19), (19, .invokevirtual 64, 22), (22, .if_icmp .lt 5, 25), (25, .iconst 0, 26), (26, .ireturn, 27), (27, .aload_n 0, 28), (28, .getfield 12, 31), (31, .iconst 0, 32), (32, .iload_n 1, 33), (33, .iconst 2, 34), (34, .invokevirtual 170, 37), (37, .aload_n 0, 38), (38, .getfield 12, 41), (41, .iconst 1, 42), (42, .iload_n 1, 43), (43, .iload_n 2, 44), (44, .invokevirtual 170, 47), (47, .aload_n 0, 48), (48, .getfield 12, 51), (51, .iconst 2, 52), (52, .iload_n 1, 53), (53, .iconst 0, 54), (54, .invokevirtual 170, 57), (57, .aload_n 0, 58), (58, .getfield 12, 61), (61, .bipush 7, 63), (63, .iload_n 1, 64), (64, .aload_n 0, 65), (65, .getfield 12, 68), (68, .invokevirtual 94, 71)] : List (Nat × Instr × Nat)).all (fun q => decide (pm_code 41 q.1 = some q.2)) = true := by decide +kernel
theorem c41_0 : pm_code 41 0 = some (.aload_n 0, 1) := pm_of cl41_0 0 (q := (0, .aload_n 0, 1)) rfl
theorem c41_1 : pm_code 41 1 = some (.iload_n 1, 2) := pm_of cl41_0 1 (q := (1, .iload_n 1, 2)) rfl
theorem c41_2 : pm_code 41 2 = some (.iconst 1, 3) := pm_of cl41_0 2 (q := (2, .iconst 1, 3)) rfl
theorem c41_3 : pm_code 41 3 = some (.invokevirtual 60, 6) := pm_of cl41_0 3 (q := (3, .invokevirtual 60, 6)) rfl
theorem c41_6 : pm_code 41 6 = some (.ifCond .eq 19, 9) := pm_of cl41_0 4 (q := (6, .ifCond .eq 19, 9)) rfl
theorem c41_9 : pm_code 41 9 = some (.aload_n 0, 10) := pm_of cl41_0 5 (q := (9, .aload_n 0, 10)) rfl
theorem c41_10 : pm_code 41 10 = some (.iload_n 2, 11) := pm_of cl41_0 6 (q := (10, .iload_n 2, 11)) rfl
theorem c41_11 : pm_code 41 11 = some (.invokevirtual 68, 14) := pm_of cl41_0 7 (q := (11, .invokevirtual 68, 14)) rfl
theorem c41_14 : pm_code 41 14 = some (.aload_n 0, 15) := pm_of cl41_0 8 (q := (14, .aload_n 0, 15)) rfl
theorem c41_15 : pm_code 41 15 = some (.getfield 41, 18) := pm_of cl41_0 9 (q := (15, .getfield 41, 18)) rfl
theorem c41_18 : pm_code 41 18 = some (.iload_n 2, 19) := pm_of cl41_0 10 (q := (18, .iload_n 2, 19)) rfl
theorem c41_19 : pm_code 41 19 = some (.invokevirtual 64, 22) := pm_of cl41_0 11 (q := (19, .invokevirtual 64, 22)) rfl
theorem c41_22 : pm_code 41 22 = some (.if_icmp .lt 5, 25) := pm_of cl41_0 12 (q := (22, .if_icmp .lt 5, 25)) rfl
theorem c41_25 : pm_code 41 25 = some (.iconst 0, 26) := pm_of cl41_0 13 (q := (25, .iconst 0, 26)) rfl
theorem c41_26 : pm_code 41 26 = some (.ireturn, 27) := pm_of cl41_0 14 (q := (26, .ireturn, 27)) rfl
theorem c41_27 : pm_code 41 27 = some (.aload_n 0, 28) := pm_of cl41_0 15 (q := (27, .aload_n 0, 28)) rfl
theorem c41_28 : pm_code 41 28 = some (.getfield 12, 31) := pm_of cl41_0 16 (q := (28, .getfield 12, 31)) rfl
theorem c41_31 : pm_code 41 31 = some (.iconst 0, 32) := pm_of cl41_0 17 (q := (31, .iconst 0, 32)) rfl
theorem c41_32 : pm_code 41 32 = some (.iload_n 1, 33) := pm_of cl41_0 18 (q := (32, .iload_n 1, 33)) rfl
theorem c41_33 : pm_code 41 33 = some (.iconst 2, 34) := pm_of cl41_0 19 (q := (33, .iconst 2, 34)) rfl
theorem c41_34 : pm_code 41 34 = some (.invokevirtual 170, 37) := pm_of cl41_0 20 (q := (34, .invokevirtual 170, 37)) rfl
theorem c41_37 : pm_code 41 37 = some (.aload_n 0, 38) := pm_of cl41_0 21 (q := (37, .aload_n 0, 38)) rfl
theorem c41_38 : pm_code 41 38 = some (.getfield 12, 41) := pm_of cl41_0 22 (q := (38, .getfield 12, 41)) rfl
theorem c41_41 : pm_code 41 41 = some (.iconst 1, 42) := pm_of cl41_0 23 (q := (41, .iconst 1, 42)) rfl
theorem c41_42 : pm_code 41 42 = some (.iload_n 1, 43) := pm_of cl41_0 24 (q := (42, .iload_n 1, 43)) rfl
theorem c41_43 : pm_code 41 43 = some (.iload_n 2, 44) := pm_of cl41_0 25 (q := (43, .iload_n 2, 44)) rfl
theorem c41_44 : pm_code 41 44 = some (.invokevirtual 170, 47) := pm_of cl41_0 26 (q := (44, .invokevirtual 170, 47)) rfl
theorem c41_47 : pm_code 41 47 = some (.aload_n 0, 48) := pm_of cl41_0 27 (q := (47, .aload_n 0, 48)) rfl
theorem c41_48 : pm_code 41 48 = some (.getfield 12, 51) := pm_of cl41_0 28 (q := (48, .getfield 12, 51)) rfl
theorem c41_51 : pm_code 41 51 = some (.iconst 2, 52) := pm_of cl41_0 29 (q := (51, .iconst 2, 52)) rfl
theorem c41_52 : pm_code 41 52 = some (.iload_n 1, 53) := pm_of cl41_0 30 (q := (52, .iload_n 1, 53)) rfl
theorem c41_53 : pm_code 41 53 = some (.iconst 0, 54) := pm_of cl41_0 31 (q := (53, .iconst 0, 54)) rfl
theorem c41_54 : pm_code 41 54 = some (.invokevirtual 170, 57) := pm_of cl41_0 32 (q := (54, .invokevirtual 170, 57)) rfl
theorem c41_57 : pm_code 41 57 = some (.aload_n 0, 58) := pm_of cl41_0 33 (q := (57, .aload_n 0, 58)) rfl
theorem c41_58 : pm_code 41 58 = some (.getfield 12, 61) := pm_of cl41_0 34 (q := (58, .getfield 12, 61)) rfl
theorem c41_61 : pm_code 41 61 = some (.bipush 7, 63) := pm_of cl41_0 35 (q := (61, .bipush 7, 63)) rfl
theorem c41_63 : pm_code 41 63 = some (.iload_n 1, 64) := pm_of cl41_0 36 (q := (63, .iload_n 1, 64)) rfl
theorem c41_64 : pm_code 41 64 = some (.aload_n 0, 65) := pm_of cl41_0 37 (q := (64, .aload_n 0, 65)) rfl
theorem c41_65 : pm_code 41 65 = some (.getfield 12, 68) := pm_of cl41_0 38 (q := (65, .getfield 12, 68)) rfl
theorem c41_68 : pm_code 41 68 = some (.invokevirtual 94, 71) := pm_of cl41_0 39 (q := (68, .invokevirtual 94, 71)) rfl
theorem cl41_1 : ([(71, .invokevirtual 170, 74), (74, .iconst 1, 75), (75, .ireturn, 76)] : List (Nat × Instr × Nat)).all (fun q => decide (pm_code 41 q.1 = some q.2)) = true := by decide +kernel
theorem c41_71 : pm_code 41 71 = some (.invokevirtual 170, 74) := pm_of cl41_1 0 (q := (71, .invokevirtual 170, 74)) rfl
theorem c41_74 : pm_code 41 74 = some (.iconst 1, 75) := pm_of cl41_1 1 (q := (74, .iconst 1, 75)) rfl
theorem c41_75 : pm_code 41 75 = some (.ireturn, 76) := pm_of cl41_1 2 (q := (75, .ireturn, 76)) rfl
theorem k42 : pm_k 42 = 3 := by decide +kernel
theorem ml42 : pm_ml 42 = 4 := by decide +kernel
theorem rt42 : pm_rt 42 = (some .int) := by decide +kernel
theorem hh42 : pm_hh 42 = [] := by decide +kernel
theorem rc42 : pm_cl 3 = (pm_y 42).cls := by decide +kernel
theorem cl42_0 : ([(0, .iconst 0, 1), (1, .istore_n 2, 2), (2, .iconst 0, 3), (3, .istore_n 3, 4), (4, .iload_n 3, 5), (5, .aload_n 0, 6), (6, .getfield 41, 9), (9, .invokevirtual 56, 12), (12, .if_icmp .ge 34, 15), (15, .aload_n 0, 16), (16, .iload_n 3, 17), (17, .iconst 2, 18), (18, .invokevirtual 60, 21), (21, .ifCond .eq 19, 24), (24, .aload_n 0, 25), (25, .getfield 12, 28), (28, .iconst 1, 29), (29, .iload_n 3, 30), (30, .invokevirtual 52, 33), (33, .iload_n 1, 34), (34, .if_icmp .ne 6, 37), (37, .iinc 2 1, 40), (40, .iinc 3 1, 43), (43, .goto (-39), 46), (46, .iload_n 2, 47), (47, .ireturn, 48)] : List (Nat × Instr × Nat)).all (fun q => decide (pm_code 42 q.1 = some q.2)) = true := by decide +kernel
theorem c42_0 : pm_code 42 0 = some (.iconst 0, 1) := pm_of cl42_0 0 (q := (0, .iconst 0, 1)) rfl
theorem c42_1 : pm_code 42 1 = some (.istore_n 2, 2) := pm_of cl42_0 1 (q := (1, .istore_n 2, 2)) rfl
theorem c42_2 : pm_code 42 2 = some (.iconst 0, 3) := pm_of cl42_0 2 (q := (2, .iconst 0, 3)) rfl
theorem c42_3 : pm_code 42 3 = some (.istore_n 3, 4) := pm_of cl42_0 3 (q := (3, .istore_n 3, 4)) rfl
theorem c42_4 : pm_code 42 4 = some (.iload_n 3, 5) := pm_of cl42_0 4 (q := (4, .iload_n 3, 5)) rfl
theorem c42_5 : pm_code 42 5 = some (.aload_n 0, 6) := pm_of cl42_0 5 (q := (5, .aload_n 0, 6)) rfl
theorem c42_6 : pm_code 42 6 = some (.getfield 41, 9) := pm_of cl42_0 6 (q := (6, .getfield 41, 9)) rfl
theorem c42_9 : pm_code 42 9 = some (.invokevirtual 56, 12) := pm_of cl42_0 7 (q := (9, .invokevirtual 56, 12)) rfl
theorem c42_12 : pm_code 42 12 = some (.if_icmp .ge 34, 15) := pm_of cl42_0 8 (q := (12, .if_icmp .ge 34, 15)) rfl
theorem c42_15 : pm_code 42 15 = some (.aload_n 0, 16) := pm_of cl42_0 9 (q := (15, .aload_n 0, 16)) rfl
theorem c42_16 : pm_code 42 16 = some (.iload_n 3, 17) := pm_of cl42_0 10 (q := (16, .iload_n 3, 17)) rfl
theorem c42_17 : pm_code 42 17 = some (.iconst 2, 18) := pm_of cl42_0 11 (q := (17, .iconst 2, 18)) rfl
theorem c42_18 : pm_code 42 18 = some (.invokevirtual 60, 21) := pm_of cl42_0 12 (q := (18, .invokevirtual 60, 21)) rfl
theorem c42_21 : pm_code 42 21 = some (.ifCond .eq 19, 24) := pm_of cl42_0 13 (q := (21, .ifCond .eq 19, 24)) rfl
theorem c42_24 : pm_code 42 24 = some (.aload_n 0, 25) := pm_of cl42_0 14 (q := (24, .aload_n 0, 25)) rfl
theorem c42_25 : pm_code 42 25 = some (.getfield 12, 28) := pm_of cl42_0 15 (q := (25, .getfield 12, 28)) rfl
theorem c42_28 : pm_code 42 28 = some (.iconst 1, 29) := pm_of cl42_0 16 (q := (28, .iconst 1, 29)) rfl
theorem c42_29 : pm_code 42 29 = some (.iload_n 3, 30) := pm_of cl42_0 17 (q := (29, .iload_n 3, 30)) rfl
theorem c42_30 : pm_code 42 30 = some (.invokevirtual 52, 33) := pm_of cl42_0 18 (q := (30, .invokevirtual 52, 33)) rfl
theorem c42_33 : pm_code 42 33 = some (.iload_n 1, 34) := pm_of cl42_0 19 (q := (33, .iload_n 1, 34)) rfl
theorem c42_34 : pm_code 42 34 = some (.if_icmp .ne 6, 37) := pm_of cl42_0 20 (q := (34, .if_icmp .ne 6, 37)) rfl
theorem c42_37 : pm_code 42 37 = some (.iinc 2 1, 40) := pm_of cl42_0 21 (q := (37, .iinc 2 1, 40)) rfl
theorem c42_40 : pm_code 42 40 = some (.iinc 3 1, 43) := pm_of cl42_0 22 (q := (40, .iinc 3 1, 43)) rfl
theorem c42_43 : pm_code 42 43 = some (.goto (-39), 46) := pm_of cl42_0 23 (q := (43, .goto (-39), 46)) rfl
theorem c42_46 : pm_code 42 46 = some (.iload_n 2, 47) := pm_of cl42_0 24 (q := (46, .iload_n 2, 47)) rfl
theorem c42_47 : pm_code 42 47 = some (.ireturn, 48) := pm_of cl42_0 25 (q := (47, .ireturn, 48)) rfl
theorem k43 : pm_k 43 = 3 := by decide +kernel
theorem ml43 : pm_ml 43 = 4 := by decide +kernel
theorem rt43 : pm_rt 43 = (some .boolean) := by decide +kernel
theorem hh43 : pm_hh 43 = [] := by decide +kernel
theorem rc43 : pm_cl 3 = (pm_y 43).cls := by decide +kernel
theorem cl43_0 : ([(0, .aload_n 0, 1), (1, .getfield 12, 4), (4, .iconst 3, 5), (5, .iload_n 1, 6), (6, .invokevirtual 52, 9), (9, .istore_n 3, 10), (10, .aload_n 0, 11), (11, .iload_n 1, 12), (12, .iconst 2, 13), (13, .invokevirtual 60, 16), (16, .ifCond .eq 9, 19), (19, .iload_n 3, 20), (20, .bipush 99, 22), (22, .if_icmp .lt 5, 25), (25, .iconst 0, 26), (26, .ireturn, 27), (27, .aload_n 0, 28), (28, .getfield 12, 31), (31, .iconst 3, 32), (32, .iload_n 1, 33), (33, .bipush 99, 35), (35, .iload_n 3, 36), (36, .iload_n 2, 37), (37, .iadd, 38), (38, .invokestatic 174, 41), (41, .invokevirtual 170, 44), (44, .iconst 1, 45), (45, .ireturn, 46)] : List (Nat × Instr × Nat)).all (fun q => decide (pm_code 43 q.1 = some q.2)) = true := by decide +kernel
theorem c43_0 : pm_code 43 0 = some (.aload_n 0, 1) := pm_of cl43_0 0 (q := (0, .aload_n 0, 1)) rfl
theorem c43_1 : pm_code 43 1 = some (.getfield 12, 4) := pm_of cl43_0 1 (q := (1, .getfield 12, 4)) rfl
theorem c43_4 : pm_code 43 4 = some (.iconst 3, 5) := pm_of cl43_0 2 (q := (4, .iconst 3, 5)) rfl
theorem c43_5 : pm_code 43 5 = some (.iload_n 1, 6) := pm_of cl43_0 3 (q := (5, .iload_n 1, 6)) rfl
theorem c43_6 : pm_code 43 6 = some (.invokevirtual 52, 9) := pm_of cl43_0 4 (q := (6, .invokevirtual 52, 9)) rfl
theorem c43_9 : pm_code 43 9 = some (.istore_n 3, 10) := pm_of cl43_0 5 (q := (9, .istore_n 3, 10)) rfl
theorem c43_10 : pm_code 43 10 = some (.aload_n 0, 11) := pm_of cl43_0 6 (q := (10, .aload_n 0, 11)) rfl
theorem c43_11 : pm_code 43 11 = some (.iload_n 1, 12) := pm_of cl43_0 7 (q := (11, .iload_n 1, 12)) rfl
theorem c43_12 : pm_code 43 12 = some (.iconst 2, 13) := pm_of cl43_0 8 (q := (12, .iconst 2, 13)) rfl
theorem c43_13 : pm_code 43 13 = some (.invokevirtual 60, 16) := pm_of cl43_0 9 (q := (13, .invokevirtual 60, 16)) rfl
theorem c43_16 : pm_code 43 16 = some (.ifCond .eq 9, 19) := pm_of cl43_0 10 (q := (16, .ifCond .eq 9, 19)) rfl
theorem c43_19 : pm_code 43 19 = some (.iload_n 3, 20) := pm_of cl43_0 11 (q := (19, .iload_n 3, 20)) rfl
theorem c43_20 : pm_code 43 20 = some (.bipush 99, 22) := pm_of cl43_0 12 (q := (20, .bipush 99, 22)) rfl
theorem c43_22 : pm_code 43 22 = some (.if_icmp .lt 5, 25) := pm_of cl43_0 13 (q := (22, .if_icmp .lt 5, 25)) rfl
theorem c43_25 : pm_code 43 25 = some (.iconst 0, 26) := pm_of cl43_0 14 (q := (25, .iconst 0, 26)) rfl
theorem c43_26 : pm_code 43 26 = some (.ireturn, 27) := pm_of cl43_0 15 (q := (26, .ireturn, 27)) rfl
theorem c43_27 : pm_code 43 27 = some (.aload_n 0, 28) := pm_of cl43_0 16 (q := (27, .aload_n 0, 28)) rfl
theorem c43_28 : pm_code 43 28 = some (.getfield 12, 31) := pm_of cl43_0 17 (q := (28, .getfield 12, 31)) rfl
theorem c43_31 : pm_code 43 31 = some (.iconst 3, 32) := pm_of cl43_0 18 (q := (31, .iconst 3, 32)) rfl
theorem c43_32 : pm_code 43 32 = some (.iload_n 1, 33) := pm_of cl43_0 19 (q := (32, .iload_n 1, 33)) rfl
theorem c43_33 : pm_code 43 33 = some (.bipush 99, 35) := pm_of cl43_0 20 (q := (33, .bipush 99, 35)) rfl
theorem c43_35 : pm_code 43 35 = some (.iload_n 3, 36) := pm_of cl43_0 21 (q := (35, .iload_n 3, 36)) rfl
theorem c43_36 : pm_code 43 36 = some (.iload_n 2, 37) := pm_of cl43_0 22 (q := (36, .iload_n 2, 37)) rfl
theorem c43_37 : pm_code 43 37 = some (.iadd, 38) := pm_of cl43_0 23 (q := (37, .iadd, 38)) rfl
theorem c43_38 : pm_code 43 38 = some (.invokestatic 174, 41) := pm_of cl43_0 24 (q := (38, .invokestatic 174, 41)) rfl
theorem c43_41 : pm_code 43 41 = some (.invokevirtual 170, 44) := pm_of cl43_0 25 (q := (41, .invokevirtual 170, 44)) rfl
theorem c43_44 : pm_code 43 44 = some (.iconst 1, 45) := pm_of cl43_0 26 (q := (44, .iconst 1, 45)) rfl
theorem c43_45 : pm_code 43 45 = some (.ireturn, 46) := pm_of cl43_0 27 (q := (45, .ireturn, 46)) rfl
theorem k44 : pm_k 44 = 3 := by decide +kernel
theorem ml44 : pm_ml 44 = 2 := by decide +kernel
theorem rt44 : pm_rt 44 = (some .boolean) := by decide +kernel
theorem hh44 : pm_hh 44 = [] := by decide +kernel
theorem rc44 : pm_cl 3 = (pm_y 44).cls := by decide +kernel
theorem cl44_0 : ([(0, .aload_n 0, 1), (1, .getfield 12, 4), (4, .iconst 3, 5), (5, .iload_n 1, 6), (6, .invokevirtual 52, 9), (9, .ifCond .ne 5, 12), (12, .iconst 0, 13), (13, .ireturn, 14), (14, .aload_n 0, 15), (15, .getfield 12, 18), (18, .iconst 3, 19), (19, .iload_n 1, 20), (20, .iconst 0, 21), (21, .invokevirtual 170, 24), (24, .iconst 1, 25), (25, .ireturn, 26)] : List (Nat × Instr × Nat)).all (fun q => decide (pm_code 44 q.1 = some q.2)) = true := by decide +kernel
theorem c44_0 : pm_code 44 0 = some (.aload_n 0, 1) := pm_of cl44_0 0 (q := (0, .aload_n 0, 1)) rfl
theorem c44_1 : pm_code 44 1 = some (.getfield 12, 4) := pm_of cl44_0 1 (q := (1, .getfield 12, 4)) rfl
theorem c44_4 : pm_code 44 4 = some (.iconst 3, 5) := pm_of cl44_0 2 (q := (4, .iconst 3, 5)) rfl
theorem c44_5 : pm_code 44 5 = some (.iload_n 1, 6) := pm_of cl44_0 3 (q := (5, .iload_n 1, 6)) rfl
theorem c44_6 : pm_code 44 6 = some (.invokevirtual 52, 9) := pm_of cl44_0 4 (q := (6, .invokevirtual 52, 9)) rfl
theorem c44_9 : pm_code 44 9 = some (.ifCond .ne 5, 12) := pm_of cl44_0 5 (q := (9, .ifCond .ne 5, 12)) rfl
theorem c44_12 : pm_code 44 12 = some (.iconst 0, 13) := pm_of cl44_0 6 (q := (12, .iconst 0, 13)) rfl
theorem c44_13 : pm_code 44 13 = some (.ireturn, 14) := pm_of cl44_0 7 (q := (13, .ireturn, 14)) rfl
theorem c44_14 : pm_code 44 14 = some (.aload_n 0, 15) := pm_of cl44_0 8 (q := (14, .aload_n 0, 15)) rfl
theorem c44_15 : pm_code 44 15 = some (.getfield 12, 18) := pm_of cl44_0 9 (q := (15, .getfield 12, 18)) rfl
theorem c44_18 : pm_code 44 18 = some (.iconst 3, 19) := pm_of cl44_0 10 (q := (18, .iconst 3, 19)) rfl
theorem c44_19 : pm_code 44 19 = some (.iload_n 1, 20) := pm_of cl44_0 11 (q := (19, .iload_n 1, 20)) rfl
theorem c44_20 : pm_code 44 20 = some (.iconst 0, 21) := pm_of cl44_0 12 (q := (20, .iconst 0, 21)) rfl
theorem c44_21 : pm_code 44 21 = some (.invokevirtual 170, 24) := pm_of cl44_0 13 (q := (21, .invokevirtual 170, 24)) rfl
theorem c44_24 : pm_code 44 24 = some (.iconst 1, 25) := pm_of cl44_0 14 (q := (24, .iconst 1, 25)) rfl
theorem c44_25 : pm_code 44 25 = some (.ireturn, 26) := pm_of cl44_0 15 (q := (25, .ireturn, 26)) rfl
