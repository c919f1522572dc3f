/-! THE LINKS AT EVERY PLACE -/
theorem fd0_13 : pm_fd 0 13 = some (0, 0, 2) := by decide +kernel
theorem fd0_18 : pm_fd 0 18 = some (0, 1, 2) := by decide +kernel
theorem fd0_21 : pm_fd 0 21 = some (0, 2, 2) := by decide +kernel
theorem fd0_25 : pm_fd 0 25 = some (0, 3, 0) := by decide +kernel
theorem p0_37 : pm_pF 0 37 40 0 3 0 := ⟨_, c0_37, by rw [k0]; exact fd0_25, by decide, by decide +kernel⟩
theorem fd0_29 : pm_fd 0 29 = some (0, 4, 0) := by decide +kernel
theorem p0_42 : pm_pF 0 42 45 0 4 0 := ⟨_, c0_42, by rw [k0]; exact fd0_29, by decide, by decide +kernel⟩
theorem g1_1 : pm_gF 1 1 4 0 3 0 := ⟨_, c1_1, by rw [k1]; exact fd0_25⟩
theorem g2_1 : pm_gF 2 1 4 0 3 0 := ⟨_, c2_1, by rw [k2]; exact fd0_25⟩
theorem g2_8 : pm_gF 2 8 11 0 3 0 := ⟨_, c2_8, by rw [k2]; exact fd0_25⟩
theorem g2_12 : pm_gF 2 12 15 0 0 2 := ⟨_, c2_12, by rw [k2]; exact fd0_13⟩
theorem g2_21 : pm_gF 2 21 24 0 3 0 := ⟨_, c2_21, by rw [k2]; exact fd0_25⟩
theorem p2_26 : pm_pF 2 26 29 0 3 0 := ⟨_, c2_26, by rw [k2]; exact fd0_25, by decide, by decide +kernel⟩
theorem g2_31 : pm_gF 2 31 34 0 0 2 := ⟨_, c2_31, by rw [k2]; exact fd0_13⟩
theorem g2_35 : pm_gF 2 35 38 0 3 0 := ⟨_, c2_35, by rw [k2]; exact fd0_25⟩
theorem tg0_36 : pm_tg 0 36 = some (105, 1, 1, false) := by decide +kernel
theorem q2_39 : pm_cF 2 39 42 105 1 2 := ⟨_, _, _, _, c2_39, rfl, by rw [k2]; exact tg0_36, rfl⟩
theorem g3_1 : pm_gF 3 1 4 0 4 0 := ⟨_, c3_1, by rw [k3]; exact fd0_29⟩
theorem g4_1 : pm_gF 4 1 4 0 4 0 := ⟨_, c4_1, by rw [k4]; exact fd0_29⟩
theorem g4_19 : pm_gF 4 19 22 0 1 2 := ⟨_, c4_19, by rw [k4]; exact fd0_18⟩
theorem g4_29 : pm_gF 4 29 32 0 1 2 := ⟨_, c4_29, by rw [k4]; exact fd0_18⟩
theorem tg0_32 : pm_tg 0 32 = some (109, 1, 1, false) := by decide +kernel
theorem q4_34 : pm_cF 4 34 37 109 1 2 := ⟨_, _, _, _, c4_34, rfl, by rw [k4]; exact tg0_32, rfl⟩
theorem g4_41 : pm_gF 4 41 44 0 3 0 := ⟨_, c4_41, by rw [k4]; exact fd0_25⟩
theorem g4_49 : pm_gF 4 49 52 0 0 2 := ⟨_, c4_49, by rw [k4]; exact fd0_13⟩
theorem g4_57 : pm_gF 4 57 60 0 0 2 := ⟨_, c4_57, by rw [k4]; exact fd0_13⟩
theorem g4_63 : pm_gF 4 63 66 0 1 2 := ⟨_, c4_63, by rw [k4]; exact fd0_18⟩
theorem tg0_39 : pm_tg 0 39 = some (164, 2, 0, true) := by decide +kernel
theorem q4_73 : pm_cF 4 73 76 164 0 2 := ⟨_, _, _, _, c4_73, rfl, by rw [k4]; exact tg0_39, rfl⟩
theorem g4_83 : pm_gF 4 83 86 0 2 2 := ⟨_, c4_83, by rw [k4]; exact fd0_21⟩
theorem g4_87 : pm_gF 4 87 90 0 4 0 := ⟨_, c4_87, by rw [k4]; exact fd0_29⟩
theorem g4_91 : pm_gF 4 91 94 0 3 0 := ⟨_, c4_91, by rw [k4]; exact fd0_25⟩
theorem tg0_43 : pm_tg 0 43 = some (159, 3, 0, true) := by decide +kernel
theorem q4_94 : pm_cF 4 94 97 159 0 3 := ⟨_, _, _, _, c4_94, rfl, by rw [k4]; exact tg0_43, rfl⟩
theorem g4_99 : pm_gF 4 99 102 0 4 0 := ⟨_, c4_99, by rw [k4]; exact fd0_29⟩
theorem p4_104 : pm_pF 4 104 107 0 4 0 := ⟨_, c4_104, by rw [k4]; exact fd0_29, by decide, by decide +kernel⟩
theorem g5_1 : pm_gF 5 1 4 0 4 0 := ⟨_, c5_1, by rw [k5]; exact fd0_29⟩
theorem g5_21 : pm_gF 5 21 24 0 1 2 := ⟨_, c5_21, by rw [k5]; exact fd0_18⟩
theorem g5_31 : pm_gF 5 31 34 0 4 0 := ⟨_, c5_31, by rw [k5]; exact fd0_29⟩
theorem p5_36 : pm_pF 5 36 39 0 4 0 := ⟨_, c5_36, by rw [k5]; exact fd0_29, by decide, by decide +kernel⟩
theorem g5_41 : pm_gF 5 41 44 0 1 2 := ⟨_, c5_41, by rw [k5]; exact fd0_18⟩
theorem q5_46 : pm_cF 5 46 49 105 1 2 := ⟨_, _, _, _, c5_46, rfl, by rw [k5]; exact tg0_36, rfl⟩
theorem g5_51 : pm_gF 5 51 54 0 2 2 := ⟨_, c5_51, by rw [k5]; exact fd0_21⟩
theorem g5_55 : pm_gF 5 55 58 0 4 0 := ⟨_, c5_55, by rw [k5]; exact fd0_29⟩
theorem tg0_47 : pm_tg 0 47 = some (160, 2, 0, true) := by decide +kernel
theorem q5_58 : pm_cF 5 58 61 160 0 2 := ⟨_, _, _, _, c5_58, rfl, by rw [k5]; exact tg0_47, rfl⟩
theorem p5_61 : pm_pF 5 61 64 0 3 0 := ⟨_, c5_61, by rw [k5]; exact fd0_25, by decide, by decide +kernel⟩
theorem g5_68 : pm_gF 5 68 71 0 3 0 := ⟨_, c5_68, by rw [k5]; exact fd0_25⟩
theorem g5_76 : pm_gF 5 76 79 0 0 2 := ⟨_, c5_76, by rw [k5]; exact fd0_13⟩
theorem g5_84 : pm_gF 5 84 87 0 1 2 := ⟨_, c5_84, by rw [k5]; exact fd0_18⟩
theorem g5_95 : pm_gF 5 95 98 0 0 2 := ⟨_, c5_95, by rw [k5]; exact fd0_13⟩
theorem q5_100 : pm_cF 5 100 103 164 0 2 := ⟨_, _, _, _, c5_100, rfl, by rw [k5]; exact tg0_39, rfl⟩
theorem p6_2 : pm_pF 6 2 5 0 3 0 := ⟨_, c6_2, by rw [k6]; exact fd0_25, by decide, by decide +kernel⟩
theorem p6_7 : pm_pF 6 7 10 0 4 0 := ⟨_, c6_7, by rw [k6]; exact fd0_29, by decide, by decide +kernel⟩
theorem g7_1 : pm_gF 7 1 4 0 3 0 := ⟨_, c7_1, by rw [k7]; exact fd0_25⟩
theorem g7_8 : pm_gF 7 8 11 0 3 0 := ⟨_, c7_8, by rw [k7]; exact fd0_25⟩
theorem g7_12 : pm_gF 7 12 15 0 0 2 := ⟨_, c7_12, by rw [k7]; exact fd0_13⟩
theorem g7_21 : pm_gF 7 21 24 0 0 2 := ⟨_, c7_21, by rw [k7]; exact fd0_13⟩
theorem g7_25 : pm_gF 7 25 28 0 3 0 := ⟨_, c7_25, by rw [k7]; exact fd0_25⟩
theorem q7_29 : pm_cF 7 29 32 109 1 2 := ⟨_, _, _, _, c7_29, rfl, by rw [k7]; exact tg0_32, rfl⟩
theorem g7_34 : pm_gF 7 34 37 0 3 0 := ⟨_, c7_34, by rw [k7]; exact fd0_25⟩
theorem p7_39 : pm_pF 7 39 42 0 3 0 := ⟨_, c7_39, by rw [k7]; exact fd0_25, by decide, by decide +kernel⟩
theorem fd1_9 : pm_fd 1 9 = some (1, 0, 2) := by decide +kernel
theorem fd1_15 : pm_fd 1 15 = some (1, 1, 2) := by decide +kernel
theorem fd1_18 : pm_fd 1 18 = some (1, 2, 0) := by decide +kernel
theorem p8_22 : pm_pF 8 22 25 1 2 0 := ⟨_, c8_22, by rw [k8]; exact fd1_18, by decide, by decide +kernel⟩
theorem p9_2 : pm_pF 9 2 5 1 2 0 := ⟨_, c9_2, by rw [k9]; exact fd1_18, by decide, by decide +kernel⟩
theorem p10_2 : pm_pF 10 2 5 1 2 0 := ⟨_, c10_2, by rw [k10]; exact fd1_18, by decide, by decide +kernel⟩
theorem tg1_22 : pm_tg 1 22 = some (131, 0, 1, false) := by decide +kernel
theorem q10_14 : pm_cF 10 14 17 131 1 1 := ⟨_, _, _, _, c10_14, rfl, by rw [k10]; exact tg1_22, rfl⟩
theorem tg1_28 : pm_tg 1 28 = some (11, 1, 1, false) := by decide +kernel
theorem q10_22 : pm_cF 10 22 25 11 1 2 := ⟨_, _, _, _, c10_22, rfl, by rw [k10]; exact tg1_28, rfl⟩
theorem tg1_32 : pm_tg 1 32 = some (140, 0, 1, false) := by decide +kernel
theorem q11_1 : pm_cF 11 1 4 140 1 1 := ⟨_, _, _, _, c11_1, rfl, by rw [k11]; exact tg1_32, rfl⟩
theorem tg1_35 : pm_tg 1 35 = some (133, 1, 1, false) := by decide +kernel
theorem q11_9 : pm_cF 11 9 12 133 1 2 := ⟨_, _, _, _, c11_9, rfl, by rw [k11]; exact tg1_35, rfl⟩
theorem tg1_39 : pm_tg 1 39 = some (141, 0, 1, false) := by decide +kernel
theorem q11_14 : pm_cF 11 14 17 141 1 1 := ⟨_, _, _, _, c11_14, rfl, by rw [k11]; exact tg1_39, rfl⟩
theorem q11_25 : pm_cF 11 25 28 141 1 1 := ⟨_, _, _, _, c11_25, rfl, by rw [k11]; exact tg1_39, rfl⟩
theorem tg1_43 : pm_tg 1 43 = some (12, 1, 1, false) := by decide +kernel
theorem q11_28 : pm_cF 11 28 31 12 1 2 := ⟨_, _, _, _, c11_28, rfl, by rw [k11]; exact tg1_43, rfl⟩
theorem q11_36 : pm_cF 11 36 39 133 1 2 := ⟨_, _, _, _, c11_36, rfl, by rw [k11]; exact tg1_35, rfl⟩
theorem g11_41 : pm_gF 11 41 44 1 2 0 := ⟨_, c11_41, by rw [k11]; exact fd1_18⟩
theorem q11_51 : pm_cF 11 51 54 133 1 2 := ⟨_, _, _, _, c11_51, rfl, by rw [k11]; exact tg1_35, rfl⟩
theorem g11_56 : pm_gF 11 56 59 1 0 2 := ⟨_, c11_56, by rw [k11]; exact fd1_9⟩
theorem g11_60 : pm_gF 11 60 63 1 2 0 := ⟨_, c11_60, by rw [k11]; exact fd1_18⟩
theorem q11_64 : pm_cF 11 64 67 141 1 1 := ⟨_, _, _, _, c11_64, rfl, by rw [k11]; exact tg1_39, rfl⟩
theorem tg1_47 : pm_tg 1 47 = some (159, 3, 0, true) := by decide +kernel
theorem q11_67 : pm_cF 11 67 70 159 0 3 := ⟨_, _, _, _, c11_67, rfl, by rw [k11]; exact tg1_47, rfl⟩
theorem tg1_51 : pm_tg 1 51 = some (128, 0, 1, false) := by decide +kernel
theorem q11_71 : pm_cF 11 71 74 128 1 1 := ⟨_, _, _, _, c11_71, rfl, by rw [k11]; exact tg1_51, rfl⟩
theorem g11_75 : pm_gF 11 75 78 1 1 2 := ⟨_, c11_75, by rw [k11]; exact fd1_15⟩
theorem g11_79 : pm_gF 11 79 82 1 2 0 := ⟨_, c11_79, by rw [k11]; exact fd1_18⟩
theorem tg1_54 : pm_tg 1 54 = some (134, 2, 1, false) := by decide +kernel
theorem q11_87 : pm_cF 11 87 90 134 1 3 := ⟨_, _, _, _, c11_87, rfl, by rw [k11]; exact tg1_54, rfl⟩
theorem q11_90 : pm_cF 11 90 93 159 0 3 := ⟨_, _, _, _, c11_90, rfl, by rw [k11]; exact tg1_47, rfl⟩
theorem g11_95 : pm_gF 11 95 98 1 2 0 := ⟨_, c11_95, by rw [k11]; exact fd1_18⟩
theorem p11_100 : pm_pF 11 100 103 1 2 0 := ⟨_, c11_100, by rw [k11]; exact fd1_18, by decide, by decide +kernel⟩
theorem tg1_58 : pm_tg 1 58 = some (135, 1, 1, false) := by decide +kernel
theorem q11_106 : pm_cF 11 106 109 135 1 2 := ⟨_, _, _, _, c11_106, rfl, by rw [k11]; exact tg1_58, rfl⟩
theorem g12_4 : pm_gF 12 4 7 1 2 0 := ⟨_, c12_4, by rw [k12]; exact fd1_18⟩
theorem g12_11 : pm_gF 12 11 14 1 0 2 := ⟨_, c12_11, by rw [k12]; exact fd1_9⟩
theorem tg1_62 : pm_tg 1 62 = some (160, 2, 0, true) := by decide +kernel
theorem q12_15 : pm_cF 12 15 18 160 0 2 := ⟨_, _, _, _, c12_15, rfl, by rw [k12]; exact tg1_62, rfl⟩
theorem g13_1 : pm_gF 13 1 4 1 2 0 := ⟨_, c13_1, by rw [k13]; exact fd1_18⟩
theorem g14_4 : pm_gF 14 4 7 1 2 0 := ⟨_, c14_4, by rw [k14]; exact fd1_18⟩
theorem g14_13 : pm_gF 14 13 16 1 0 2 := ⟨_, c14_13, by rw [k14]; exact fd1_9⟩
theorem q14_17 : pm_cF 14 17 20 160 0 2 := ⟨_, _, _, _, c14_17, rfl, by rw [k14]; exact tg1_62, rfl⟩
theorem tg1_66 : pm_tg 1 66 = some (362, 2, 0, false) := by decide +kernel
theorem q14_21 : pm_cF 14 21 24 362 0 2 := ⟨_, _, _, _, c14_21, rfl, by rw [k14]; exact tg1_66, rfl⟩
theorem g14_25 : pm_gF 14 25 28 1 1 2 := ⟨_, c14_25, by rw [k14]; exact fd1_15⟩
theorem q14_29 : pm_cF 14 29 32 160 0 2 := ⟨_, _, _, _, c14_29, rfl, by rw [k14]; exact tg1_62, rfl⟩
theorem fd2_9 : pm_fd 2 9 = some (2, 0, 2) := by decide +kernel
theorem fd2_15 : pm_fd 2 15 = some (2, 1, 2) := by decide +kernel
theorem fd2_18 : pm_fd 2 18 = some (2, 2, 0) := by decide +kernel
theorem p15_23 : pm_pF 15 23 26 2 2 0 := ⟨_, c15_23, by rw [k15]; exact fd2_18, by decide, by decide +kernel⟩
theorem tg2_22 : pm_tg 2 22 = some (16, 0, 1, false) := by decide +kernel
theorem q15_27 : pm_cF 15 27 30 16 1 1 := ⟨_, _, _, _, c15_27, rfl, by rw [k15]; exact tg2_22, rfl⟩
theorem p16_2 : pm_pF 16 2 5 2 2 0 := ⟨_, c16_2, by rw [k16]; exact fd2_18, by decide, by decide +kernel⟩
theorem tg2_25 : pm_tg 2 25 = some (17, 1, 1, false) := by decide +kernel
theorem q16_7 : pm_cF 16 7 10 17 1 2 := ⟨_, _, _, _, c16_7, rfl, by rw [k16]; exact tg2_25, rfl⟩
theorem q16_13 : pm_cF 16 13 16 17 1 2 := ⟨_, _, _, _, c16_13, rfl, by rw [k16]; exact tg2_25, rfl⟩
theorem q16_19 : pm_cF 16 19 22 17 1 2 := ⟨_, _, _, _, c16_19, rfl, by rw [k16]; exact tg2_25, rfl⟩
theorem q16_24 : pm_cF 16 24 27 17 1 2 := ⟨_, _, _, _, c16_24, rfl, by rw [k16]; exact tg2_25, rfl⟩
theorem q16_30 : pm_cF 16 30 33 17 1 2 := ⟨_, _, _, _, c16_30, rfl, by rw [k16]; exact tg2_25, rfl⟩
theorem q16_36 : pm_cF 16 36 39 17 1 2 := ⟨_, _, _, _, c16_36, rfl, by rw [k16]; exact tg2_25, rfl⟩
theorem q16_42 : pm_cF 16 42 45 17 1 2 := ⟨_, _, _, _, c16_42, rfl, by rw [k16]; exact tg2_25, rfl⟩
theorem g17_1 : pm_gF 17 1 4 2 2 0 := ⟨_, c17_1, by rw [k17]; exact fd2_18⟩
theorem g17_5 : pm_gF 17 5 8 2 0 2 := ⟨_, c17_5, by rw [k17]; exact fd2_9⟩
theorem g17_13 : pm_gF 17 13 16 2 0 2 := ⟨_, c17_13, by rw [k17]; exact fd2_9⟩
theorem g17_17 : pm_gF 17 17 20 2 2 0 := ⟨_, c17_17, by rw [k17]; exact fd2_18⟩
theorem tg2_63 : pm_tg 2 63 = some (159, 3, 0, true) := by decide +kernel
theorem q17_21 : pm_cF 17 21 24 159 0 3 := ⟨_, _, _, _, c17_21, rfl, by rw [k17]; exact tg2_63, rfl⟩
theorem g17_26 : pm_gF 17 26 29 2 2 0 := ⟨_, c17_26, by rw [k17]; exact fd2_18⟩
theorem p17_31 : pm_pF 17 31 34 2 2 0 := ⟨_, c17_31, by rw [k17]; exact fd2_18, by decide, by decide +kernel⟩
theorem g18_6 : pm_gF 18 6 9 2 2 0 := ⟨_, c18_6, by rw [k18]; exact fd2_18⟩
theorem g18_14 : pm_gF 18 14 17 2 0 2 := ⟨_, c18_14, by rw [k18]; exact fd2_9⟩
theorem g18_22 : pm_gF 18 22 25 2 0 2 := ⟨_, c18_22, by rw [k18]; exact fd2_9⟩
theorem g18_50 : pm_gF 18 50 53 2 1 2 := ⟨_, c18_50, by rw [k18]; exact fd2_15⟩
theorem g18_58 : pm_gF 18 58 61 2 1 2 := ⟨_, c18_58, by rw [k18]; exact fd2_15⟩
theorem g18_67 : pm_gF 18 67 70 2 1 2 := ⟨_, c18_67, by rw [k18]; exact fd2_15⟩
theorem g18_75 : pm_gF 18 75 78 2 1 2 := ⟨_, c18_75, by rw [k18]; exact fd2_15⟩
theorem tg2_33 : pm_tg 2 33 = some (19, 3, 0, false) := by decide +kernel
theorem q18_82 : pm_cF 18 82 85 19 0 3 := ⟨_, _, _, _, c18_82, rfl, by rw [k18]; exact tg2_33, rfl⟩
theorem g18_98 : pm_gF 18 98 101 2 1 2 := ⟨_, c18_98, by rw [k18]; exact fd2_15⟩
theorem g18_106 : pm_gF 18 106 109 2 1 2 := ⟨_, c18_106, by rw [k18]; exact fd2_15⟩
theorem tg2_37 : pm_tg 2 37 = some (160, 2, 0, true) := by decide +kernel
theorem q18_128 : pm_cF 18 128 131 160 0 2 := ⟨_, _, _, _, c18_128, rfl, by rw [k18]; exact tg2_37, rfl⟩
theorem g18_146 : pm_gF 18 146 149 2 1 2 := ⟨_, c18_146, by rw [k18]; exact fd2_15⟩
theorem q18_150 : pm_cF 18 150 153 160 0 2 := ⟨_, _, _, _, c18_150, rfl, by rw [k18]; exact tg2_37, rfl⟩
theorem tg2_41 : pm_tg 2 41 = some (363, 2, 0, false) := by decide +kernel
theorem q18_153 : pm_cF 18 153 156 363 0 2 := ⟨_, _, _, _, c18_153, rfl, by rw [k18]; exact tg2_41, rfl⟩
theorem tg2_47 : pm_tg 2 47 = some (362, 2, 0, false) := by decide +kernel
theorem q18_156 : pm_cF 18 156 159 362 0 2 := ⟨_, _, _, _, c18_156, rfl, by rw [k18]; exact tg2_47, rfl⟩
theorem q19_62 : pm_cF 19 62 65 363 0 2 := ⟨_, _, _, _, c19_62, rfl, by rw [k19]; exact tg2_41, rfl⟩
theorem q19_68 : pm_cF 19 68 71 362 0 2 := ⟨_, _, _, _, c19_68, rfl, by rw [k19]; exact tg2_47, rfl⟩
theorem p20_2 : pm_pF 20 2 5 2 2 0 := ⟨_, c20_2, by rw [k20]; exact fd2_18, by decide, by decide +kernel⟩
theorem tg2_50 : pm_tg 2 50 = some (21, 2, 1, false) := by decide +kernel
theorem q20_8 : pm_cF 20 8 11 21 1 3 := ⟨_, _, _, _, c20_8, rfl, by rw [k20]; exact tg2_50, rfl⟩
theorem tg2_54 : pm_tg 2 54 = some (131, 0, 1, false) := by decide +kernel
theorem q20_12 : pm_cF 20 12 15 131 1 1 := ⟨_, _, _, _, c20_12, rfl, by rw [k20]; exact tg2_54, rfl⟩
theorem tg2_60 : pm_tg 2 60 = some (133, 1, 1, false) := by decide +kernel
theorem q20_20 : pm_cF 20 20 23 133 1 2 := ⟨_, _, _, _, c20_20, rfl, by rw [k20]; exact tg2_60, rfl⟩
theorem tg2_67 : pm_tg 2 67 = some (22, 2, 1, false) := by decide +kernel
theorem q21_3 : pm_cF 21 3 6 22 1 3 := ⟨_, _, _, _, c21_3, rfl, by rw [k21]; exact tg2_67, rfl⟩
theorem tg2_70 : pm_tg 2 70 = some (136, 1, 1, false) := by decide +kernel
theorem q21_18 : pm_cF 21 18 21 136 1 2 := ⟨_, _, _, _, c21_18, rfl, by rw [k21]; exact tg2_70, rfl⟩
theorem q21_27 : pm_cF 21 27 30 136 1 2 := ⟨_, _, _, _, c21_27, rfl, by rw [k21]; exact tg2_70, rfl⟩
theorem q21_36 : pm_cF 21 36 39 136 1 2 := ⟨_, _, _, _, c21_36, rfl, by rw [k21]; exact tg2_70, rfl⟩
theorem tg2_74 : pm_tg 2 74 = some (128, 0, 1, false) := by decide +kernel
theorem q21_52 : pm_cF 21 52 55 128 1 1 := ⟨_, _, _, _, c21_52, rfl, by rw [k21]; exact tg2_74, rfl⟩
theorem q21_58 : pm_cF 21 58 61 22 1 3 := ⟨_, _, _, _, c21_58, rfl, by rw [k21]; exact tg2_67, rfl⟩
theorem q21_64 : pm_cF 21 64 67 17 1 2 := ⟨_, _, _, _, c21_64, rfl, by rw [k21]; exact tg2_25, rfl⟩
theorem tg2_77 : pm_tg 2 77 = some (23, 2, 1, false) := by decide +kernel
theorem q22_3 : pm_cF 22 3 6 23 1 3 := ⟨_, _, _, _, c22_3, rfl, by rw [k22]; exact tg2_77, rfl⟩
theorem q22_18 : pm_cF 22 18 21 136 1 2 := ⟨_, _, _, _, c22_18, rfl, by rw [k22]; exact tg2_70, rfl⟩
theorem q22_27 : pm_cF 22 27 30 136 1 2 := ⟨_, _, _, _, c22_27, rfl, by rw [k22]; exact tg2_70, rfl⟩
theorem q22_36 : pm_cF 22 36 39 136 1 2 := ⟨_, _, _, _, c22_36, rfl, by rw [k22]; exact tg2_70, rfl⟩
theorem q22_52 : pm_cF 22 52 55 128 1 1 := ⟨_, _, _, _, c22_52, rfl, by rw [k22]; exact tg2_74, rfl⟩
theorem q22_58 : pm_cF 22 58 61 23 1 3 := ⟨_, _, _, _, c22_58, rfl, by rw [k22]; exact tg2_77, rfl⟩
theorem q22_64 : pm_cF 22 64 67 17 1 2 := ⟨_, _, _, _, c22_64, rfl, by rw [k22]; exact tg2_25, rfl⟩
theorem tg2_80 : pm_tg 2 80 = some (24, 1, 0, false) := by decide +kernel
theorem q23_1 : pm_cF 23 1 4 24 0 1 := ⟨_, _, _, _, c23_1, rfl, by rw [k23]; exact tg2_80, rfl⟩
theorem tg2_84 : pm_tg 2 84 = some (25, 1, 0, false) := by decide +kernel
theorem q23_6 : pm_cF 23 6 9 25 0 1 := ⟨_, _, _, _, c23_6, rfl, by rw [k23]; exact tg2_84, rfl⟩
theorem tg2_87 : pm_tg 2 87 = some (140, 0, 1, false) := by decide +kernel
theorem q23_12 : pm_cF 23 12 15 140 1 1 := ⟨_, _, _, _, c23_12, rfl, by rw [k23]; exact tg2_87, rfl⟩
theorem tg2_90 : pm_tg 2 90 = some (134, 2, 1, false) := by decide +kernel
theorem q23_26 : pm_cF 23 26 29 134 1 3 := ⟨_, _, _, _, c23_26, rfl, by rw [k23]; exact tg2_90, rfl⟩
theorem q23_30 : pm_cF 23 30 33 17 1 2 := ⟨_, _, _, _, c23_30, rfl, by rw [k23]; exact tg2_25, rfl⟩
theorem q23_43 : pm_cF 23 43 46 128 1 1 := ⟨_, _, _, _, c23_43, rfl, by rw [k23]; exact tg2_74, rfl⟩
theorem q23_49 : pm_cF 23 49 52 17 1 2 := ⟨_, _, _, _, c23_49, rfl, by rw [k23]; exact tg2_25, rfl⟩
theorem q23_63 : pm_cF 23 63 66 136 1 2 := ⟨_, _, _, _, c23_63, rfl, by rw [k23]; exact tg2_70, rfl⟩
theorem q23_71 : pm_cF 23 71 74 133 1 2 := ⟨_, _, _, _, c23_71, rfl, by rw [k23]; exact tg2_60, rfl⟩
theorem q23_85 : pm_cF 23 85 88 133 1 2 := ⟨_, _, _, _, c23_85, rfl, by rw [k23]; exact tg2_60, rfl⟩
theorem q23_97 : pm_cF 23 97 100 128 1 1 := ⟨_, _, _, _, c23_97, rfl, by rw [k23]; exact tg2_74, rfl⟩
theorem q23_105 : pm_cF 23 105 108 21 1 3 := ⟨_, _, _, _, c23_105, rfl, by rw [k23]; exact tg2_50, rfl⟩
theorem tg2_93 : pm_tg 2 93 = some (135, 1, 1, false) := by decide +kernel
theorem q23_111 : pm_cF 23 111 114 135 1 2 := ⟨_, _, _, _, c23_111, rfl, by rw [k23]; exact tg2_93, rfl⟩
theorem q23_118 : pm_cF 23 118 121 128 1 1 := ⟨_, _, _, _, c23_118, rfl, by rw [k23]; exact tg2_74, rfl⟩
theorem q23_124 : pm_cF 23 124 127 135 1 2 := ⟨_, _, _, _, c23_124, rfl, by rw [k23]; exact tg2_93, rfl⟩
theorem q23_132 : pm_cF 23 132 135 21 1 3 := ⟨_, _, _, _, c23_132, rfl, by rw [k23]; exact tg2_50, rfl⟩
theorem q23_138 : pm_cF 23 138 141 135 1 2 := ⟨_, _, _, _, c23_138, rfl, by rw [k23]; exact tg2_93, rfl⟩
theorem q23_146 : pm_cF 23 146 149 21 1 3 := ⟨_, _, _, _, c23_146, rfl, by rw [k23]; exact tg2_50, rfl⟩
theorem q23_152 : pm_cF 23 152 155 135 1 2 := ⟨_, _, _, _, c23_152, rfl, by rw [k23]; exact tg2_93, rfl⟩
theorem q23_157 : pm_cF 23 157 160 17 1 2 := ⟨_, _, _, _, c23_157, rfl, by rw [k23]; exact tg2_25, rfl⟩
theorem ct2_97 : pm_ct 2 97 = some (.retAddr 14) := by decide +kernel
theorem v24_1 : pm_kF 24 1 3 (.retAddr 14) := ⟨_, _, c24_1, Or.inl rfl, by rw [k24]; exact ct2_97⟩
theorem tg2_99 : pm_tg 2 99 = some (132, 1, 1, false) := by decide +kernel
theorem q24_3 : pm_cF 24 3 6 132 1 2 := ⟨_, _, _, _, c24_3, rfl, by rw [k24]; exact tg2_99, rfl⟩
theorem ct2_103 : pm_ct 2 103 = some (.retAddr 16) := by decide +kernel
theorem v24_13 : pm_kF 24 13 15 (.retAddr 16) := ⟨_, _, c24_13, Or.inl rfl, by rw [k24]; exact ct2_103⟩
theorem q24_15 : pm_cF 24 15 18 132 1 2 := ⟨_, _, _, _, c24_15, rfl, by rw [k24]; exact tg2_99, rfl⟩
theorem ct2_105 : pm_ct 2 105 = some (.retAddr 18) := by decide +kernel
theorem v25_1 : pm_kF 25 1 3 (.retAddr 18) := ⟨_, _, c25_1, Or.inl rfl, by rw [k25]; exact ct2_105⟩
theorem q25_3 : pm_cF 25 3 6 132 1 2 := ⟨_, _, _, _, c25_3, rfl, by rw [k25]; exact tg2_99, rfl⟩
theorem ct2_107 : pm_ct 2 107 = some (.retAddr 20) := by decide +kernel
theorem v25_12 : pm_kF 25 12 14 (.retAddr 20) := ⟨_, _, c25_12, Or.inl rfl, by rw [k25]; exact ct2_107⟩
theorem q25_14 : pm_cF 25 14 17 132 1 2 := ⟨_, _, _, _, c25_14, rfl, by rw [k25]; exact tg2_99, rfl⟩
theorem ct2_109 : pm_ct 2 109 = some (.retAddr 22) := by decide +kernel
theorem v25_23 : pm_kF 25 23 25 (.retAddr 22) := ⟨_, _, c25_23, Or.inl rfl, by rw [k25]; exact ct2_109⟩
theorem q25_25 : pm_cF 25 25 28 132 1 2 := ⟨_, _, _, _, c25_25, rfl, by rw [k25]; exact tg2_99, rfl⟩
theorem ct2_111 : pm_ct 2 111 = some (.retAddr 24) := by decide +kernel
theorem v25_34 : pm_kF 25 34 36 (.retAddr 24) := ⟨_, _, c25_34, Or.inl rfl, by rw [k25]; exact ct2_111⟩
theorem q25_36 : pm_cF 25 36 39 132 1 2 := ⟨_, _, _, _, c25_36, rfl, by rw [k25]; exact tg2_99, rfl⟩
theorem ct2_113 : pm_ct 2 113 = some (.retAddr 26) := by decide +kernel
theorem v25_45 : pm_kF 25 45 47 (.retAddr 26) := ⟨_, _, c25_45, Or.inl rfl, by rw [k25]; exact ct2_113⟩
theorem q25_47 : pm_cF 25 47 50 132 1 2 := ⟨_, _, _, _, c25_47, rfl, by rw [k25]; exact tg2_99, rfl⟩
theorem ct2_115 : pm_ct 2 115 = some (.retAddr 28) := by decide +kernel
theorem v25_56 : pm_kF 25 56 58 (.retAddr 28) := ⟨_, _, c25_56, Or.inl rfl, by rw [k25]; exact ct2_115⟩
theorem q25_58 : pm_cF 25 58 61 132 1 2 := ⟨_, _, _, _, c25_58, rfl, by rw [k25]; exact tg2_99, rfl⟩
theorem ct2_117 : pm_ct 2 117 = some (.retAddr 30) := by decide +kernel
theorem v25_67 : pm_kF 25 67 69 (.retAddr 30) := ⟨_, _, c25_67, Or.inl rfl, by rw [k25]; exact ct2_117⟩
theorem q25_69 : pm_cF 25 69 72 132 1 2 := ⟨_, _, _, _, c25_69, rfl, by rw [k25]; exact tg2_99, rfl⟩
theorem ct2_119 : pm_ct 2 119 = some (.retAddr 32) := by decide +kernel
theorem v25_79 : pm_kF 25 79 81 (.retAddr 32) := ⟨_, _, c25_79, Or.inl rfl, by rw [k25]; exact ct2_119⟩
theorem q25_81 : pm_cF 25 81 84 132 1 2 := ⟨_, _, _, _, c25_81, rfl, by rw [k25]; exact tg2_99, rfl⟩
theorem g26_1 : pm_gF 26 1 4 2 0 2 := ⟨_, c26_1, by rw [k26]; exact fd2_9⟩
theorem g26_5 : pm_gF 26 5 8 2 0 2 := ⟨_, c26_5, by rw [k26]; exact fd2_9⟩
theorem tg2_29 : pm_tg 2 29 = some (164, 2, 0, true) := by decide +kernel
theorem q26_8 : pm_cF 26 8 11 164 0 2 := ⟨_, _, _, _, c26_8, rfl, by rw [k26]; exact tg2_29, rfl⟩
theorem g26_13 : pm_gF 26 13 16 2 2 0 := ⟨_, c26_13, by rw [k26]; exact fd2_18⟩
theorem p26_16 : pm_pF 26 16 19 2 2 0 := ⟨_, c26_16, by rw [k26]; exact fd2_18, by decide, by decide +kernel⟩
theorem tg3_11 : pm_tg 3 11 = some (100, 0, 2, true) := by decide +kernel
theorem q27_9 : pm_cF 27 9 12 100 2 1 := ⟨_, _, _, _, c27_9, rfl, by rw [k27]; exact tg3_11, rfl⟩
theorem fd3_12 : pm_fd 3 12 = some (3, 0, 2) := by decide +kernel
theorem tg3_20 : pm_tg 3 20 = some (15, 0, 2, false) := by decide +kernel
theorem q27_20 : pm_cF 27 20 23 15 2 1 := ⟨_, _, _, _, c27_20, rfl, by rw [k27]; exact tg3_20, rfl⟩
theorem fd3_21 : pm_fd 3 21 = some (3, 1, 2) := by decide +kernel
theorem q27_31 : pm_cF 27 31 34 15 2 1 := ⟨_, _, _, _, c27_31, rfl, by rw [k27]; exact tg3_20, rfl⟩
theorem fd3_25 : pm_fd 3 25 = some (3, 2, 2) := by decide +kernel
theorem fd3_28 : pm_fd 3 28 = some (3, 3, 2) := by decide +kernel
theorem fd3_32 : pm_fd 3 32 = some (3, 4, 2) := by decide +kernel
theorem fd3_35 : pm_fd 3 35 = some (3, 5, 2) := by decide +kernel
theorem tg3_40 : pm_tg 3 40 = some (78, 0, 2, true) := by decide +kernel
theorem q27_64 : pm_cF 27 64 67 78 2 1 := ⟨_, _, _, _, c27_64, rfl, by rw [k27]; exact tg3_40, rfl⟩
theorem fd3_41 : pm_fd 3 41 = some (3, 6, 2) := by decide +kernel
theorem p27_67 : pm_pF 27 67 70 3 6 2 := ⟨_, c27_67, by rw [k27]; exact fd3_41, by decide, by decide +kernel⟩
theorem g27_71 : pm_gF 27 71 74 3 0 2 := ⟨_, c27_71, by rw [k27]; exact fd3_12⟩
theorem g27_75 : pm_gF 27 75 78 3 6 2 := ⟨_, c27_75, by rw [k27]; exact fd3_41⟩
theorem tg3_45 : pm_tg 3 45 = some (101, 1, 1, false) := by decide +kernel
theorem q27_78 : pm_cF 27 78 81 101 1 2 := ⟨_, _, _, _, c27_78, rfl, by rw [k27]; exact tg3_45, rfl⟩
theorem g28_1 : pm_gF 28 1 4 3 0 2 := ⟨_, c28_1, by rw [k28]; exact fd3_12⟩
theorem g29_6 : pm_gF 29 6 9 3 6 2 := ⟨_, c29_6, by rw [k29]; exact fd3_41⟩
theorem tg3_56 : pm_tg 3 56 = some (81, 0, 1, false) := by decide +kernel
theorem q29_9 : pm_cF 29 9 12 81 1 1 := ⟨_, _, _, _, c29_9, rfl, by rw [k29]; exact tg3_56, rfl⟩
theorem tg3_60 : pm_tg 3 60 = some (30, 2, 1, false) := by decide +kernel
theorem q29_18 : pm_cF 29 18 21 30 1 3 := ⟨_, _, _, _, c29_18, rfl, by rw [k29]; exact tg3_60, rfl⟩
theorem g29_25 : pm_gF 29 25 28 3 0 2 := ⟨_, c29_25, by rw [k29]; exact fd3_12⟩
theorem tg3_52 : pm_tg 3 52 = some (106, 2, 1, false) := by decide +kernel
theorem q29_30 : pm_cF 29 30 33 106 1 3 := ⟨_, _, _, _, c29_30, rfl, by rw [k29]; exact tg3_52, rfl⟩
theorem tg3_109 : pm_tg 3 109 = some (31, 2, 1, false) := by decide +kernel
theorem q29_36 : pm_cF 29 36 39 31 1 3 := ⟨_, _, _, _, c29_36, rfl, by rw [k29]; exact tg3_109, rfl⟩
theorem g30_1 : pm_gF 30 1 4 3 0 2 := ⟨_, c30_1, by rw [k30]; exact fd3_12⟩
theorem q30_6 : pm_cF 30 6 9 106 1 3 := ⟨_, _, _, _, c30_6, rfl, by rw [k30]; exact tg3_52, rfl⟩
theorem tg3_97 : pm_tg 3 97 = some (32, 1, 1, false) := by decide +kernel
theorem q31_2 : pm_cF 31 2 5 32 1 2 := ⟨_, _, _, _, c31_2, rfl, by rw [k31]; exact tg3_97, rfl⟩
theorem tg3_101 : pm_tg 3 101 = some (33, 1, 1, false) := by decide +kernel
theorem q31_7 : pm_cF 31 7 10 33 1 2 := ⟨_, _, _, _, c31_7, rfl, by rw [k31]; exact tg3_101, rfl⟩
theorem g31_11 : pm_gF 31 11 14 3 3 2 := ⟨_, c31_11, by rw [k31]; exact fd3_28⟩
theorem tg3_105 : pm_tg 3 105 = some (18, 1, 1, false) := by decide +kernel
theorem q31_14 : pm_cF 31 14 17 18 1 2 := ⟨_, _, _, _, c31_14, rfl, by rw [k31]; exact tg3_105, rfl⟩
theorem g32_1 : pm_gF 32 1 4 3 0 2 := ⟨_, c32_1, by rw [k32]; exact fd3_12⟩
theorem q32_7 : pm_cF 32 7 10 106 1 3 := ⟨_, _, _, _, c32_7, rfl, by rw [k32]; exact tg3_52, rfl⟩
theorem g32_12 : pm_gF 32 12 15 3 3 2 := ⟨_, c32_12, by rw [k32]; exact fd3_28⟩
theorem g32_17 : pm_gF 32 17 20 3 6 2 := ⟨_, c32_17, by rw [k32]; exact fd3_41⟩
theorem tg3_76 : pm_tg 3 76 = some (82, 1, 1, false) := by decide +kernel
theorem q32_21 : pm_cF 32 21 24 82 1 2 := ⟨_, _, _, _, c32_21, rfl, by rw [k32]; exact tg3_76, rfl⟩
theorem tg3_79 : pm_tg 3 79 = some (159, 3, 0, true) := by decide +kernel
theorem q32_24 : pm_cF 32 24 27 159 0 3 := ⟨_, _, _, _, c32_24, rfl, by rw [k32]; exact tg3_79, rfl⟩
theorem g32_28 : pm_gF 32 28 31 3 3 2 := ⟨_, c32_28, by rw [k32]; exact fd3_28⟩
theorem g32_33 : pm_gF 32 33 36 3 0 2 := ⟨_, c32_33, by rw [k32]; exact fd3_12⟩
theorem q32_38 : pm_cF 32 38 41 106 1 3 := ⟨_, _, _, _, c32_38, rfl, by rw [k32]; exact tg3_52, rfl⟩
theorem q32_41 : pm_cF 32 41 44 159 0 3 := ⟨_, _, _, _, c32_41, rfl, by rw [k32]; exact tg3_79, rfl⟩
theorem g32_45 : pm_gF 32 45 48 3 3 2 := ⟨_, c32_45, by rw [k32]; exact fd3_28⟩
theorem g32_50 : pm_gF 32 50 53 3 6 2 := ⟨_, c32_50, by rw [k32]; exact fd3_41⟩
theorem tg3_83 : pm_tg 3 83 = some (83, 1, 1, false) := by decide +kernel
theorem q32_54 : pm_cF 32 54 57 83 1 2 := ⟨_, _, _, _, c32_54, rfl, by rw [k32]; exact tg3_83, rfl⟩
theorem q32_57 : pm_cF 32 57 60 159 0 3 := ⟨_, _, _, _, c32_57, rfl, by rw [k32]; exact tg3_79, rfl⟩
theorem g32_61 : pm_gF 32 61 64 3 3 2 := ⟨_, c32_61, by rw [k32]; exact fd3_28⟩
theorem g32_66 : pm_gF 32 66 69 3 0 2 := ⟨_, c32_66, by rw [k32]; exact fd3_12⟩
theorem q32_71 : pm_cF 32 71 74 106 1 3 := ⟨_, _, _, _, c32_71, rfl, by rw [k32]; exact tg3_52, rfl⟩
theorem q32_74 : pm_cF 32 74 77 159 0 3 := ⟨_, _, _, _, c32_74, rfl, by rw [k32]; exact tg3_79, rfl⟩
theorem g32_78 : pm_gF 32 78 81 3 3 2 := ⟨_, c32_78, by rw [k32]; exact fd3_28⟩
theorem g32_83 : pm_gF 32 83 86 3 6 2 := ⟨_, c32_83, by rw [k32]; exact fd3_41⟩
theorem tg3_86 : pm_tg 3 86 = some (84, 1, 1, false) := by decide +kernel
theorem q32_87 : pm_cF 32 87 90 84 1 2 := ⟨_, _, _, _, c32_87, rfl, by rw [k32]; exact tg3_86, rfl⟩
theorem tg3_89 : pm_tg 3 89 = some (365, 1, 0, false) := by decide +kernel
theorem q32_90 : pm_cF 32 90 93 365 0 1 := ⟨_, _, _, _, c32_90, rfl, by rw [k32]; exact tg3_89, rfl⟩
theorem q32_93 : pm_cF 32 93 96 159 0 3 := ⟨_, _, _, _, c32_93, rfl, by rw [k32]; exact tg3_79, rfl⟩
theorem g32_97 : pm_gF 32 97 100 3 3 2 := ⟨_, c32_97, by rw [k32]; exact fd3_28⟩
theorem g32_102 : pm_gF 32 102 105 3 0 2 := ⟨_, c32_102, by rw [k32]; exact fd3_12⟩
theorem q32_107 : pm_cF 32 107 110 106 1 3 := ⟨_, _, _, _, c32_107, rfl, by rw [k32]; exact tg3_52, rfl⟩
theorem q32_110 : pm_cF 32 110 113 159 0 3 := ⟨_, _, _, _, c32_110, rfl, by rw [k32]; exact tg3_79, rfl⟩
theorem g32_114 : pm_gF 32 114 117 3 3 2 := ⟨_, c32_114, by rw [k32]; exact fd3_28⟩
theorem g32_125 : pm_gF 32 125 128 3 0 2 := ⟨_, c32_125, by rw [k32]; exact fd3_12⟩
theorem tg3_94 : pm_tg 3 94 = some (107, 0, 1, false) := by decide +kernel
theorem q32_128 : pm_cF 32 128 131 107 1 1 := ⟨_, _, _, _, c32_128, rfl, by rw [k32]; exact tg3_94, rfl⟩
theorem q32_135 : pm_cF 32 135 138 159 0 3 := ⟨_, _, _, _, c32_135, rfl, by rw [k32]; exact tg3_79, rfl⟩
theorem g32_139 : pm_gF 32 139 142 3 3 2 := ⟨_, c32_139, by rw [k32]; exact fd3_28⟩
theorem g32_145 : pm_gF 32 145 148 3 0 2 := ⟨_, c32_145, by rw [k32]; exact fd3_12⟩
theorem q32_148 : pm_cF 32 148 151 107 1 1 := ⟨_, _, _, _, c32_148, rfl, by rw [k32]; exact tg3_94, rfl⟩
theorem q32_151 : pm_cF 32 151 154 159 0 3 := ⟨_, _, _, _, c32_151, rfl, by rw [k32]; exact tg3_79, rfl⟩
theorem g33_5 : pm_gF 33 5 8 3 1 2 := ⟨_, c33_5, by rw [k33]; exact fd3_21⟩
theorem g33_12 : pm_gF 33 12 15 3 2 2 := ⟨_, c33_12, by rw [k33]; exact fd3_25⟩
theorem g34_6 : pm_gF 34 6 9 3 6 2 := ⟨_, c34_6, by rw [k34]; exact fd3_41⟩
theorem q34_9 : pm_cF 34 9 12 81 1 1 := ⟨_, _, _, _, c34_9, rfl, by rw [k34]; exact tg3_56, rfl⟩
theorem g34_21 : pm_gF 34 21 24 3 6 2 := ⟨_, c34_21, by rw [k34]; exact fd3_41⟩
theorem q34_24 : pm_cF 34 24 27 81 1 1 := ⟨_, _, _, _, c34_24, rfl, by rw [k34]; exact tg3_56, rfl⟩
theorem tg3_125 : pm_tg 3 125 = some (35, 2, 1, false) := by decide +kernel
theorem q34_33 : pm_cF 34 33 36 35 1 3 := ⟨_, _, _, _, c34_33, rfl, by rw [k34]; exact tg3_125, rfl⟩
theorem g35_1 : pm_gF 35 1 4 3 6 2 := ⟨_, c35_1, by rw [k35]; exact fd3_41⟩
theorem tg3_128 : pm_tg 3 128 = some (85, 2, 1, false) := by decide +kernel
theorem q35_6 : pm_cF 35 6 9 85 1 3 := ⟨_, _, _, _, c35_6, rfl, by rw [k35]; exact tg3_128, rfl⟩
theorem q35_15 : pm_cF 35 15 18 30 1 3 := ⟨_, _, _, _, c35_15, rfl, by rw [k35]; exact tg3_60, rfl⟩
theorem q35_24 : pm_cF 35 24 27 30 1 3 := ⟨_, _, _, _, c35_24, rfl, by rw [k35]; exact tg3_60, rfl⟩
theorem g35_31 : pm_gF 35 31 34 3 0 2 := ⟨_, c35_31, by rw [k35]; exact fd3_12⟩
theorem q35_36 : pm_cF 35 36 39 106 1 3 := ⟨_, _, _, _, c35_36, rfl, by rw [k35]; exact tg3_52, rfl⟩
theorem g35_40 : pm_gF 35 40 43 3 0 2 := ⟨_, c35_40, by rw [k35]; exact fd3_12⟩
theorem q35_45 : pm_cF 35 45 48 106 1 3 := ⟨_, _, _, _, c35_45, rfl, by rw [k35]; exact tg3_52, rfl⟩
theorem g36_6 : pm_gF 36 6 9 3 6 2 := ⟨_, c36_6, by rw [k36]; exact fd3_41⟩
theorem q36_9 : pm_cF 36 9 12 81 1 1 := ⟨_, _, _, _, c36_9, rfl, by rw [k36]; exact tg3_56, rfl⟩
theorem q36_18 : pm_cF 36 18 21 30 1 3 := ⟨_, _, _, _, c36_18, rfl, by rw [k36]; exact tg3_60, rfl⟩
theorem g37_1 : pm_gF 37 1 4 3 6 2 := ⟨_, c37_1, by rw [k37]; exact fd3_41⟩
theorem p38_2 : pm_pF 38 2 5 3 6 2 := ⟨_, c38_2, by rw [k38]; exact fd3_41, by decide, by decide +kernel⟩
theorem g38_6 : pm_gF 38 6 9 3 1 2 := ⟨_, c38_6, by rw [k38]; exact fd3_21⟩
theorem tg3_49 : pm_tg 3 49 = some (16, 0, 1, false) := by decide +kernel
theorem q38_9 : pm_cF 38 9 12 16 1 1 := ⟨_, _, _, _, c38_9, rfl, by rw [k38]; exact tg3_49, rfl⟩
theorem g38_13 : pm_gF 38 13 16 3 2 2 := ⟨_, c38_13, by rw [k38]; exact fd3_25⟩
theorem q38_16 : pm_cF 38 16 19 16 1 1 := ⟨_, _, _, _, c38_16, rfl, by rw [k38]; exact tg3_49, rfl⟩
theorem g38_20 : pm_gF 38 20 23 3 0 2 := ⟨_, c38_20, by rw [k38]; exact fd3_12⟩
theorem q38_24 : pm_cF 38 24 27 101 1 2 := ⟨_, _, _, _, c38_24, rfl, by rw [k38]; exact tg3_45, rfl⟩
theorem tg3_144 : pm_tg 3 144 = some (40, 0, 1, false) := by decide +kernel
theorem q39_49 : pm_cF 39 49 52 40 1 1 := ⟨_, _, _, _, c39_49, rfl, by rw [k39]; exact tg3_144, rfl⟩
theorem tg3_148 : pm_tg 3 148 = some (41, 2, 1, false) := by decide +kernel
theorem q39_56 : pm_cF 39 56 59 41 1 3 := ⟨_, _, _, _, c39_56, rfl, by rw [k39]; exact tg3_148, rfl⟩
theorem tg3_151 : pm_tg 3 151 = some (43, 2, 1, false) := by decide +kernel
theorem q39_63 : pm_cF 39 63 66 43 1 3 := ⟨_, _, _, _, c39_63, rfl, by rw [k39]; exact tg3_151, rfl⟩
theorem tg3_154 : pm_tg 3 154 = some (44, 1, 1, false) := by decide +kernel
theorem q39_69 : pm_cF 39 69 72 44 1 2 := ⟨_, _, _, _, c39_69, rfl, by rw [k39]; exact tg3_154, rfl⟩
theorem tg3_158 : pm_tg 3 158 = some (45, 2, 1, false) := by decide +kernel
theorem q39_76 : pm_cF 39 76 79 45 1 3 := ⟨_, _, _, _, c39_76, rfl, by rw [k39]; exact tg3_158, rfl⟩
theorem q39_83 : pm_cF 39 83 86 45 1 3 := ⟨_, _, _, _, c39_83, rfl, by rw [k39]; exact tg3_158, rfl⟩
theorem tg3_161 : pm_tg 3 161 = some (46, 1, 1, false) := by decide +kernel
theorem q39_89 : pm_cF 39 89 92 46 1 2 := ⟨_, _, _, _, c39_89, rfl, by rw [k39]; exact tg3_161, rfl⟩
theorem tg3_164 : pm_tg 3 164 = some (50, 0, 1, false) := by decide +kernel
theorem q39_94 : pm_cF 39 94 97 50 1 1 := ⟨_, _, _, _, c39_94, rfl, by rw [k39]; exact tg3_164, rfl⟩
theorem tg3_112 : pm_tg 3 112 = some (36, 1, 1, false) := by decide +kernel
theorem q40_2 : pm_cF 40 2 5 36 1 2 := ⟨_, _, _, _, c40_2, rfl, by rw [k40]; exact tg3_112, rfl⟩
theorem g40_9 : pm_gF 40 9 12 3 0 2 := ⟨_, c40_9, by rw [k40]; exact fd3_12⟩
theorem q40_12 : pm_cF 40 12 15 107 1 1 := ⟨_, _, _, _, c40_12, rfl, by rw [k40]; exact tg3_94, rfl⟩
theorem g40_16 : pm_gF 40 16 19 3 6 2 := ⟨_, c40_16, by rw [k40]; exact fd3_41⟩
theorem tg3_167 : pm_tg 3 167 = some (93, 0, 1, false) := by decide +kernel
theorem q40_19 : pm_cF 40 19 22 93 1 1 := ⟨_, _, _, _, c40_19, rfl, by rw [k40]; exact tg3_167, rfl⟩
theorem g40_31 : pm_gF 40 31 34 3 6 2 := ⟨_, c40_31, by rw [k40]; exact fd3_41⟩
theorem q40_34 : pm_cF 40 34 37 81 1 1 := ⟨_, _, _, _, c40_34, rfl, by rw [k40]; exact tg3_56, rfl⟩
theorem q40_43 : pm_cF 40 43 46 30 1 3 := ⟨_, _, _, _, c40_43, rfl, by rw [k40]; exact tg3_60, rfl⟩
theorem g40_50 : pm_gF 40 50 53 3 0 2 := ⟨_, c40_50, by rw [k40]; exact fd3_12⟩
theorem tg3_170 : pm_tg 3 170 = some (102, 3, 1, false) := by decide +kernel
theorem q40_56 : pm_cF 40 56 59 102 1 4 := ⟨_, _, _, _, c40_56, rfl, by rw [k40]; exact tg3_170, rfl⟩
theorem q41_3 : pm_cF 41 3 6 30 1 3 := ⟨_, _, _, _, c41_3, rfl, by rw [k41]; exact tg3_60, rfl⟩
theorem tg3_68 : pm_tg 3 68 = some (42, 1, 1, false) := by decide +kernel
theorem q41_11 : pm_cF 41 11 14 42 1 2 := ⟨_, _, _, _, c41_11, rfl, by rw [k41]; exact tg3_68, rfl⟩
theorem g41_15 : pm_gF 41 15 18 3 6 2 := ⟨_, c41_15, by rw [k41]; exact fd3_41⟩
theorem tg3_64 : pm_tg 3 64 = some (94, 1, 1, false) := by decide +kernel
theorem q41_19 : pm_cF 41 19 22 94 1 2 := ⟨_, _, _, _, c41_19, rfl, by rw [k41]; exact tg3_64, rfl⟩
theorem g41_28 : pm_gF 41 28 31 3 0 2 := ⟨_, c41_28, by rw [k41]; exact fd3_12⟩
theorem q41_34 : pm_cF 41 34 37 102 1 4 := ⟨_, _, _, _, c41_34, rfl, by rw [k41]; exact tg3_170, rfl⟩
theorem g41_38 : pm_gF 41 38 41 3 0 2 := ⟨_, c41_38, by rw [k41]; exact fd3_12⟩
theorem q41_44 : pm_cF 41 44 47 102 1 4 := ⟨_, _, _, _, c41_44, rfl, by rw [k41]; exact tg3_170, rfl⟩
theorem g41_48 : pm_gF 41 48 51 3 0 2 := ⟨_, c41_48, by rw [k41]; exact fd3_12⟩
theorem q41_54 : pm_cF 41 54 57 102 1 4 := ⟨_, _, _, _, c41_54, rfl, by rw [k41]; exact tg3_170, rfl⟩
theorem g41_58 : pm_gF 41 58 61 3 0 2 := ⟨_, c41_58, by rw [k41]; exact fd3_12⟩
theorem g41_65 : pm_gF 41 65 68 3 0 2 := ⟨_, c41_65, by rw [k41]; exact fd3_12⟩
theorem q41_68 : pm_cF 41 68 71 107 1 1 := ⟨_, _, _, _, c41_68, rfl, by rw [k41]; exact tg3_94, rfl⟩
theorem q41_71 : pm_cF 41 71 74 102 1 4 := ⟨_, _, _, _, c41_71, rfl, by rw [k41]; exact tg3_170, rfl⟩
theorem g42_6 : pm_gF 42 6 9 3 6 2 := ⟨_, c42_6, by rw [k42]; exact fd3_41⟩
theorem q42_9 : pm_cF 42 9 12 81 1 1 := ⟨_, _, _, _, c42_9, rfl, by rw [k42]; exact tg3_56, rfl⟩
theorem q42_18 : pm_cF 42 18 21 30 1 3 := ⟨_, _, _, _, c42_18, rfl, by rw [k42]; exact tg3_60, rfl⟩
theorem g42_25 : pm_gF 42 25 28 3 0 2 := ⟨_, c42_25, by rw [k42]; exact fd3_12⟩
theorem q42_30 : pm_cF 42 30 33 106 1 3 := ⟨_, _, _, _, c42_30, rfl, by rw [k42]; exact tg3_52, rfl⟩
theorem g43_1 : pm_gF 43 1 4 3 0 2 := ⟨_, c43_1, by rw [k43]; exact fd3_12⟩
theorem q43_6 : pm_cF 43 6 9 106 1 3 := ⟨_, _, _, _, c43_6, rfl, by rw [k43]; exact tg3_52, rfl⟩
theorem q43_13 : pm_cF 43 13 16 30 1 3 := ⟨_, _, _, _, c43_13, rfl, by rw [k43]; exact tg3_60, rfl⟩
theorem g43_28 : pm_gF 43 28 31 3 0 2 := ⟨_, c43_28, by rw [k43]; exact fd3_12⟩
theorem tg3_174 : pm_tg 3 174 = some (363, 2, 0, false) := by decide +kernel
theorem q43_38 : pm_cF 43 38 41 363 0 2 := ⟨_, _, _, _, c43_38, rfl, by rw [k43]; exact tg3_174, rfl⟩
theorem q43_41 : pm_cF 43 41 44 102 1 4 := ⟨_, _, _, _, c43_41, rfl, by rw [k43]; exact tg3_170, rfl⟩
theorem g44_1 : pm_gF 44 1 4 3 0 2 := ⟨_, c44_1, by rw [k44]; exact fd3_12⟩
theorem q44_6 : pm_cF 44 6 9 106 1 3 := ⟨_, _, _, _, c44_6, rfl, by rw [k44]; exact tg3_52, rfl⟩
theorem g44_15 : pm_gF 44 15 18 3 0 2 := ⟨_, c44_15, by rw [k44]; exact fd3_12⟩
theorem q44_21 : pm_cF 44 21 24 102 1 4 := ⟨_, _, _, _, c44_21, rfl, by rw [k44]; exact tg3_170, rfl⟩
theorem q45_3 : pm_cF 45 3 6 30 1 3 := ⟨_, _, _, _, c45_3, rfl, by rw [k45]; exact tg3_60, rfl⟩
theorem g45_10 : pm_gF 45 10 13 3 0 2 := ⟨_, c45_10, by rw [k45]; exact fd3_12⟩
theorem q45_15 : pm_cF 45 15 18 106 1 3 := ⟨_, _, _, _, c45_15, rfl, by rw [k45]; exact tg3_52, rfl⟩
theorem g45_25 : pm_gF 45 25 28 3 0 2 := ⟨_, c45_25, by rw [k45]; exact fd3_12⟩
theorem q45_31 : pm_cF 45 31 34 102 1 4 := ⟨_, _, _, _, c45_31, rfl, by rw [k45]; exact tg3_170, rfl⟩
theorem tg3_131 : pm_tg 3 131 = some (47, 1, 1, false) := by decide +kernel
theorem q46_2 : pm_cF 46 2 5 47 1 2 := ⟨_, _, _, _, c46_2, rfl, by rw [k46]; exact tg3_131, rfl⟩
theorem tg3_177 : pm_tg 3 177 = some (48, 2, 1, false) := by decide +kernel
theorem q46_11 : pm_cF 46 11 14 48 1 3 := ⟨_, _, _, _, c46_11, rfl, by rw [k46]; exact tg3_177, rfl⟩
theorem g46_20 : pm_gF 46 20 23 3 0 2 := ⟨_, c46_20, by rw [k46]; exact fd3_12⟩
theorem g46_27 : pm_gF 46 27 30 3 0 2 := ⟨_, c46_27, by rw [k46]; exact fd3_12⟩
theorem q46_33 : pm_cF 46 33 36 106 1 3 := ⟨_, _, _, _, c46_33, rfl, by rw [k46]; exact tg3_52, rfl⟩
theorem q46_38 : pm_cF 46 38 41 102 1 4 := ⟨_, _, _, _, c46_38, rfl, by rw [k46]; exact tg3_170, rfl⟩
theorem tg3_180 : pm_tg 3 180 = some (49, 1, 1, false) := by decide +kernel
theorem q46_43 : pm_cF 46 43 46 49 1 2 := ⟨_, _, _, _, c46_43, rfl, by rw [k46]; exact tg3_180, rfl⟩
theorem q47_3 : pm_cF 47 3 6 30 1 3 := ⟨_, _, _, _, c47_3, rfl, by rw [k47]; exact tg3_60, rfl⟩
theorem q47_13 : pm_cF 47 13 16 32 1 2 := ⟨_, _, _, _, c47_13, rfl, by rw [k47]; exact tg3_97, rfl⟩
theorem g47_18 : pm_gF 47 18 21 3 1 2 := ⟨_, c47_18, by rw [k47]; exact fd3_21⟩
theorem g47_22 : pm_gF 47 22 25 3 3 2 := ⟨_, c47_22, by rw [k47]; exact fd3_28⟩
theorem q47_25 : pm_cF 47 25 28 18 1 2 := ⟨_, _, _, _, c47_25, rfl, by rw [k47]; exact tg3_105, rfl⟩
theorem g47_29 : pm_gF 47 29 32 3 0 2 := ⟨_, c47_29, by rw [k47]; exact fd3_12⟩
theorem q47_34 : pm_cF 47 34 37 106 1 3 := ⟨_, _, _, _, c47_34, rfl, by rw [k47]; exact tg3_52, rfl⟩
theorem tg3_71 : pm_tg 3 71 = some (362, 2, 0, false) := by decide +kernel
theorem q47_38 : pm_cF 47 38 41 362 0 2 := ⟨_, _, _, _, c47_38, rfl, by rw [k47]; exact tg3_71, rfl⟩
theorem q48_3 : pm_cF 48 3 6 30 1 3 := ⟨_, _, _, _, c48_3, rfl, by rw [k48]; exact tg3_60, rfl⟩
theorem q48_12 : pm_cF 48 12 15 30 1 3 := ⟨_, _, _, _, c48_12, rfl, by rw [k48]; exact tg3_60, rfl⟩
theorem g48_19 : pm_gF 48 19 22 3 0 2 := ⟨_, c48_19, by rw [k48]; exact fd3_12⟩
theorem q48_25 : pm_cF 48 25 28 106 1 3 := ⟨_, _, _, _, c48_25, rfl, by rw [k48]; exact tg3_52, rfl⟩
theorem g49_1 : pm_gF 49 1 4 3 0 2 := ⟨_, c49_1, by rw [k49]; exact fd3_12⟩
theorem q49_7 : pm_cF 49 7 10 102 1 4 := ⟨_, _, _, _, c49_7, rfl, by rw [k49]; exact tg3_170, rfl⟩
theorem g49_11 : pm_gF 49 11 14 3 0 2 := ⟨_, c49_11, by rw [k49]; exact fd3_12⟩
theorem q49_17 : pm_cF 49 17 20 102 1 4 := ⟨_, _, _, _, c49_17, rfl, by rw [k49]; exact tg3_170, rfl⟩
theorem g50_1 : pm_gF 50 1 4 3 0 2 := ⟨_, c50_1, by rw [k50]; exact fd3_12⟩
theorem q50_4 : pm_cF 50 4 7 107 1 1 := ⟨_, _, _, _, c50_4, rfl, by rw [k50]; exact tg3_94, rfl⟩
theorem g50_19 : pm_gF 50 19 22 3 6 2 := ⟨_, c50_19, by rw [k50]; exact fd3_41⟩
theorem q50_22 : pm_cF 50 22 25 81 1 1 := ⟨_, _, _, _, c50_22, rfl, by rw [k50]; exact tg3_56, rfl⟩
theorem q50_31 : pm_cF 50 31 34 30 1 3 := ⟨_, _, _, _, c50_31, rfl, by rw [k50]; exact tg3_60, rfl⟩
theorem tg3_183 : pm_tg 3 183 = some (51, 1, 1, false) := by decide +kernel
theorem q50_39 : pm_cF 50 39 42 51 1 2 := ⟨_, _, _, _, c50_39, rfl, by rw [k50]; exact tg3_183, rfl⟩
theorem q50_48 : pm_cF 50 48 51 30 1 3 := ⟨_, _, _, _, c50_48, rfl, by rw [k50]; exact tg3_60, rfl⟩
theorem g50_55 : pm_gF 50 55 58 3 0 2 := ⟨_, c50_55, by rw [k50]; exact fd3_12⟩
theorem g50_61 : pm_gF 50 61 64 3 0 2 := ⟨_, c50_61, by rw [k50]; exact fd3_12⟩
theorem q50_66 : pm_cF 50 66 69 106 1 3 := ⟨_, _, _, _, c50_66, rfl, by rw [k50]; exact tg3_52, rfl⟩
theorem q50_71 : pm_cF 50 71 74 102 1 4 := ⟨_, _, _, _, c50_71, rfl, by rw [k50]; exact tg3_170, rfl⟩
theorem g50_81 : pm_gF 50 81 84 3 0 2 := ⟨_, c50_81, by rw [k50]; exact fd3_12⟩
theorem g50_85 : pm_gF 50 85 88 3 0 2 := ⟨_, c50_85, by rw [k50]; exact fd3_12⟩
theorem q50_88 : pm_cF 50 88 91 107 1 1 := ⟨_, _, _, _, c50_88, rfl, by rw [k50]; exact tg3_94, rfl⟩
theorem tg3_186 : pm_tg 3 186 = some (103, 1, 1, false) := by decide +kernel
theorem q50_93 : pm_cF 50 93 96 103 1 2 := ⟨_, _, _, _, c50_93, rfl, by rw [k50]; exact tg3_186, rfl⟩
theorem g50_100 : pm_gF 50 100 103 3 6 2 := ⟨_, c50_100, by rw [k50]; exact fd3_41⟩
theorem q50_103 : pm_cF 50 103 106 81 1 1 := ⟨_, _, _, _, c50_103, rfl, by rw [k50]; exact tg3_56, rfl⟩
theorem q50_112 : pm_cF 50 112 115 30 1 3 := ⟨_, _, _, _, c50_112, rfl, by rw [k50]; exact tg3_60, rfl⟩
theorem q50_120 : pm_cF 50 120 123 47 1 2 := ⟨_, _, _, _, c50_120, rfl, by rw [k50]; exact tg3_131, rfl⟩
theorem q50_128 : pm_cF 50 128 131 49 1 2 := ⟨_, _, _, _, c50_128, rfl, by rw [k50]; exact tg3_180, rfl⟩
theorem g51_1 : pm_gF 51 1 4 3 0 2 := ⟨_, c51_1, by rw [k51]; exact fd3_12⟩
theorem tg3_189 : pm_tg 3 189 = some (108, 0, 1, false) := by decide +kernel
theorem q51_4 : pm_cF 51 4 7 108 1 1 := ⟨_, _, _, _, c51_4, rfl, by rw [k51]; exact tg3_189, rfl⟩
theorem g51_11 : pm_gF 51 11 14 3 0 2 := ⟨_, c51_11, by rw [k51]; exact fd3_12⟩
theorem g51_15 : pm_gF 51 15 18 3 0 2 := ⟨_, c51_15, by rw [k51]; exact fd3_12⟩
theorem q51_18 : pm_cF 51 18 21 108 1 1 := ⟨_, _, _, _, c51_18, rfl, by rw [k51]; exact tg3_189, rfl⟩
theorem tg3_192 : pm_tg 3 192 = some (104, 1, 1, false) := by decide +kernel
theorem q51_23 : pm_cF 51 23 26 104 1 2 := ⟨_, _, _, _, c51_23, rfl, by rw [k51]; exact tg3_192, rfl⟩
theorem g51_30 : pm_gF 51 30 33 3 0 2 := ⟨_, c51_30, by rw [k51]; exact fd3_12⟩
theorem g51_36 : pm_gF 51 36 39 3 0 2 := ⟨_, c51_36, by rw [k51]; exact fd3_12⟩
theorem q51_41 : pm_cF 51 41 44 106 1 3 := ⟨_, _, _, _, c51_41, rfl, by rw [k51]; exact tg3_52, rfl⟩
theorem q51_46 : pm_cF 51 46 49 102 1 4 := ⟨_, _, _, _, c51_46, rfl, by rw [k51]; exact tg3_170, rfl⟩
theorem g52_1 : pm_gF 52 1 4 3 3 2 := ⟨_, c52_1, by rw [k52]; exact fd3_28⟩
theorem q52_6 : pm_cF 52 6 9 159 0 3 := ⟨_, _, _, _, c52_6, rfl, by rw [k52]; exact tg3_79, rfl⟩
theorem g52_10 : pm_gF 52 10 13 3 3 2 := ⟨_, c52_10, by rw [k52]; exact fd3_28⟩
theorem q52_15 : pm_cF 52 15 18 159 0 3 := ⟨_, _, _, _, c52_15, rfl, by rw [k52]; exact tg3_79, rfl⟩
theorem g52_19 : pm_gF 52 19 22 3 3 2 := ⟨_, c52_19, by rw [k52]; exact fd3_28⟩
theorem q52_24 : pm_cF 52 24 27 159 0 3 := ⟨_, _, _, _, c52_24, rfl, by rw [k52]; exact tg3_79, rfl⟩
theorem g52_28 : pm_gF 52 28 31 3 3 2 := ⟨_, c52_28, by rw [k52]; exact fd3_28⟩
theorem q52_34 : pm_cF 52 34 37 159 0 3 := ⟨_, _, _, _, c52_34, rfl, by rw [k52]; exact tg3_79, rfl⟩
theorem g52_38 : pm_gF 52 38 41 3 3 2 := ⟨_, c52_38, by rw [k52]; exact fd3_28⟩
theorem q52_43 : pm_cF 52 43 46 159 0 3 := ⟨_, _, _, _, c52_43, rfl, by rw [k52]; exact tg3_79, rfl⟩
theorem g52_47 : pm_gF 52 47 50 3 3 2 := ⟨_, c52_47, by rw [k52]; exact fd3_28⟩
theorem q52_53 : pm_cF 52 53 56 159 0 3 := ⟨_, _, _, _, c52_53, rfl, by rw [k52]; exact tg3_79, rfl⟩
theorem g52_57 : pm_gF 52 57 60 3 3 2 := ⟨_, c52_57, by rw [k52]; exact fd3_28⟩
theorem q52_63 : pm_cF 52 63 66 159 0 3 := ⟨_, _, _, _, c52_63, rfl, by rw [k52]; exact tg3_79, rfl⟩
theorem g52_67 : pm_gF 52 67 70 3 3 2 := ⟨_, c52_67, by rw [k52]; exact fd3_28⟩
theorem q52_74 : pm_cF 52 74 77 159 0 3 := ⟨_, _, _, _, c52_74, rfl, by rw [k52]; exact tg3_79, rfl⟩
theorem g52_78 : pm_gF 52 78 81 3 1 2 := ⟨_, c52_78, by rw [k52]; exact fd3_21⟩
theorem g52_82 : pm_gF 52 82 85 3 3 2 := ⟨_, c52_82, by rw [k52]; exact fd3_28⟩
theorem q52_85 : pm_cF 52 85 88 18 1 2 := ⟨_, _, _, _, c52_85, rfl, by rw [k52]; exact tg3_105, rfl⟩
theorem q53_3 : pm_cF 53 3 6 30 1 3 := ⟨_, _, _, _, c53_3, rfl, by rw [k53]; exact tg3_60, rfl⟩
theorem q53_13 : pm_cF 53 13 16 33 1 2 := ⟨_, _, _, _, c53_13, rfl, by rw [k53]; exact tg3_101, rfl⟩
theorem g53_19 : pm_gF 53 19 22 3 0 2 := ⟨_, c53_19, by rw [k53]; exact fd3_12⟩
theorem q53_24 : pm_cF 53 24 27 106 1 3 := ⟨_, _, _, _, c53_24, rfl, by rw [k53]; exact tg3_52, rfl⟩
theorem q53_31 : pm_cF 53 31 34 32 1 2 := ⟨_, _, _, _, c53_31, rfl, by rw [k53]; exact tg3_97, rfl⟩
theorem g53_44 : pm_gF 53 44 47 3 3 2 := ⟨_, c53_44, by rw [k53]; exact fd3_28⟩
theorem g53_50 : pm_gF 53 50 53 3 0 2 := ⟨_, c53_50, by rw [k53]; exact fd3_12⟩
theorem q53_53 : pm_cF 53 53 56 107 1 1 := ⟨_, _, _, _, c53_53, rfl, by rw [k53]; exact tg3_94, rfl⟩
theorem q53_59 : pm_cF 53 59 62 159 0 3 := ⟨_, _, _, _, c53_59, rfl, by rw [k53]; exact tg3_79, rfl⟩
theorem g53_65 : pm_gF 53 65 68 3 3 2 := ⟨_, c53_65, by rw [k53]; exact fd3_28⟩
theorem q53_68 : pm_cF 53 68 71 18 1 2 := ⟨_, _, _, _, c53_68, rfl, by rw [k53]; exact tg3_105, rfl⟩
theorem q54_2 : pm_cF 54 2 5 36 1 2 := ⟨_, _, _, _, c54_2, rfl, by rw [k54]; exact tg3_112, rfl⟩
theorem g54_10 : pm_gF 54 10 13 3 6 2 := ⟨_, c54_10, by rw [k54]; exact fd3_41⟩
theorem q54_13 : pm_cF 54 13 16 81 1 1 := ⟨_, _, _, _, c54_13, rfl, by rw [k54]; exact tg3_56, rfl⟩
theorem tg3_115 : pm_tg 3 115 = some (53, 3, 1, false) := by decide +kernel
theorem q54_23 : pm_cF 54 23 26 53 1 4 := ⟨_, _, _, _, c54_23, rfl, by rw [k54]; exact tg3_115, rfl⟩
theorem g55_6 : pm_gF 55 6 9 3 6 2 := ⟨_, c55_6, by rw [k55]; exact fd3_41⟩
theorem q55_9 : pm_cF 55 9 12 81 1 1 := ⟨_, _, _, _, c55_9, rfl, by rw [k55]; exact tg3_56, rfl⟩
theorem q55_18 : pm_cF 55 18 21 30 1 3 := ⟨_, _, _, _, c55_18, rfl, by rw [k55]; exact tg3_60, rfl⟩
theorem q55_28 : pm_cF 55 28 31 53 1 4 := ⟨_, _, _, _, c55_28, rfl, by rw [k55]; exact tg3_115, rfl⟩
theorem g56_1 : pm_gF 56 1 4 3 6 2 := ⟨_, c56_1, by rw [k56]; exact fd3_41⟩
theorem tg3_119 : pm_tg 3 119 = some (99, 1, 1, false) := by decide +kernel
theorem q56_5 : pm_cF 56 5 8 99 1 2 := ⟨_, _, _, _, c56_5, rfl, by rw [k56]; exact tg3_119, rfl⟩
theorem g56_16 : pm_gF 56 16 19 3 6 2 := ⟨_, c56_16, by rw [k56]; exact fd3_41⟩
theorem q56_20 : pm_cF 56 20 23 83 1 2 := ⟨_, _, _, _, c56_20, rfl, by rw [k56]; exact tg3_83, rfl⟩
theorem g56_24 : pm_gF 56 24 27 3 6 2 := ⟨_, c56_24, by rw [k56]; exact fd3_41⟩
theorem tg3_122 : pm_tg 3 122 = some (98, 1, 1, false) := by decide +kernel
theorem q56_28 : pm_cF 56 28 31 98 1 2 := ⟨_, _, _, _, c56_28, rfl, by rw [k56]; exact tg3_122, rfl⟩
theorem g57_2 : pm_gF 57 2 5 3 6 2 := ⟨_, c57_2, by rw [k57]; exact fd3_41⟩
theorem q57_6 : pm_cF 57 6 9 94 1 2 := ⟨_, _, _, _, c57_6, rfl, by rw [k57]; exact tg3_64, rfl⟩
theorem q57_11 : pm_cF 57 11 14 42 1 2 := ⟨_, _, _, _, c57_11, rfl, by rw [k57]; exact tg3_68, rfl⟩
theorem q57_15 : pm_cF 57 15 18 362 0 2 := ⟨_, _, _, _, c57_15, rfl, by rw [k57]; exact tg3_71, rfl⟩
theorem q58_3 : pm_cF 58 3 6 30 1 3 := ⟨_, _, _, _, c58_3, rfl, by rw [k58]; exact tg3_60, rfl⟩
theorem q58_15 : pm_cF 58 15 18 47 1 2 := ⟨_, _, _, _, c58_15, rfl, by rw [k58]; exact tg3_131, rfl⟩
theorem g59_1 : pm_gF 59 1 4 3 3 2 := ⟨_, c59_1, by rw [k59]; exact fd3_28⟩
theorem q59_6 : pm_cF 59 6 9 159 0 3 := ⟨_, _, _, _, c59_6, rfl, by rw [k59]; exact tg3_79, rfl⟩
theorem g59_10 : pm_gF 59 10 13 3 3 2 := ⟨_, c59_10, by rw [k59]; exact fd3_28⟩
theorem q59_15 : pm_cF 59 15 18 159 0 3 := ⟨_, _, _, _, c59_15, rfl, by rw [k59]; exact tg3_79, rfl⟩
theorem g59_19 : pm_gF 59 19 22 3 1 2 := ⟨_, c59_19, by rw [k59]; exact fd3_21⟩
theorem g59_23 : pm_gF 59 23 26 3 3 2 := ⟨_, c59_23, by rw [k59]; exact fd3_28⟩
theorem q59_26 : pm_cF 59 26 29 18 1 2 := ⟨_, _, _, _, c59_26, rfl, by rw [k59]; exact tg3_105, rfl⟩
theorem g60_8 : pm_gF 60 8 11 3 4 2 := ⟨_, c60_8, by rw [k60]; exact fd3_32⟩
theorem q60_14 : pm_cF 60 14 17 42 1 2 := ⟨_, _, _, _, c60_14, rfl, by rw [k60]; exact tg3_68, rfl⟩
theorem q60_17 : pm_cF 60 17 20 159 0 3 := ⟨_, _, _, _, c60_17, rfl, by rw [k60]; exact tg3_79, rfl⟩
theorem g60_21 : pm_gF 60 21 24 3 5 2 := ⟨_, c60_21, by rw [k60]; exact fd3_35⟩
theorem q60_26 : pm_cF 60 26 29 159 0 3 := ⟨_, _, _, _, c60_26, rfl, by rw [k60]; exact tg3_79, rfl⟩
theorem tg3_134 : pm_tg 3 134 = some (61, 0, 1, false) := by decide +kernel
theorem q60_43 : pm_cF 60 43 46 61 1 1 := ⟨_, _, _, _, c60_43, rfl, by rw [k60]; exact tg3_134, rfl⟩
theorem g60_49 : pm_gF 60 49 52 3 5 2 := ⟨_, c60_49, by rw [k60]; exact fd3_35⟩
theorem g60_55 : pm_gF 60 55 58 3 5 2 := ⟨_, c60_55, by rw [k60]; exact fd3_35⟩
theorem tg3_137 : pm_tg 3 137 = some (160, 2, 0, true) := by decide +kernel
theorem q60_60 : pm_cF 60 60 63 160 0 2 := ⟨_, _, _, _, c60_60, rfl, by rw [k60]; exact tg3_137, rfl⟩
theorem q60_65 : pm_cF 60 65 68 159 0 3 := ⟨_, _, _, _, c60_65, rfl, by rw [k60]; exact tg3_79, rfl⟩
theorem g60_75 : pm_gF 60 75 78 3 5 2 := ⟨_, c60_75, by rw [k60]; exact fd3_35⟩
theorem q60_79 : pm_cF 60 79 82 160 0 2 := ⟨_, _, _, _, c60_79, rfl, by rw [k60]; exact tg3_137, rfl⟩
theorem g61_6 : pm_gF 61 6 9 3 6 2 := ⟨_, c61_6, by rw [k61]; exact fd3_41⟩
theorem tg3_141 : pm_tg 3 141 = some (92, 0, 1, false) := by decide +kernel
theorem q61_9 : pm_cF 61 9 12 92 1 1 := ⟨_, _, _, _, c61_9, rfl, by rw [k61]; exact tg3_141, rfl⟩
theorem g61_16 : pm_gF 61 16 19 3 4 2 := ⟨_, c61_16, by rw [k61]; exact fd3_32⟩
theorem q61_20 : pm_cF 61 20 23 160 0 2 := ⟨_, _, _, _, c61_20, rfl, by rw [k61]; exact tg3_137, rfl⟩
theorem g61_32 : pm_gF 61 32 35 3 4 2 := ⟨_, c61_32, by rw [k61]; exact fd3_32⟩
theorem q61_36 : pm_cF 61 36 39 160 0 2 := ⟨_, _, _, _, c61_36, rfl, by rw [k61]; exact tg3_137, rfl⟩
theorem g61_41 : pm_gF 61 41 44 3 5 2 := ⟨_, c61_41, by rw [k61]; exact fd3_35⟩
theorem q61_45 : pm_cF 61 45 48 160 0 2 := ⟨_, _, _, _, c61_45, rfl, by rw [k61]; exact tg3_137, rfl⟩
theorem g61_51 : pm_gF 61 51 54 3 4 2 := ⟨_, c61_51, by rw [k61]; exact fd3_32⟩
theorem q61_55 : pm_cF 61 55 58 160 0 2 := ⟨_, _, _, _, c61_55, rfl, by rw [k61]; exact tg3_137, rfl⟩
theorem g61_60 : pm_gF 61 60 63 3 5 2 := ⟨_, c61_60, by rw [k61]; exact fd3_35⟩
theorem q61_64 : pm_cF 61 64 67 160 0 2 := ⟨_, _, _, _, c61_64, rfl, by rw [k61]; exact tg3_137, rfl⟩
theorem fd4_11 : pm_fd 4 11 = some (4, 0, 2) := by decide +kernel
theorem fd4_15 : pm_fd 4 15 = some (4, 1, 2) := by decide +kernel
theorem fd4_19 : pm_fd 4 19 = some (4, 2, 2) := by decide +kernel
theorem fd4_22 : pm_fd 4 22 = some (4, 3, 2) := by decide +kernel
theorem fd4_25 : pm_fd 4 25 = some (4, 4, 2) := by decide +kernel
theorem fd4_28 : pm_fd 4 28 = some (4, 5, 2) := by decide +kernel
theorem fd4_31 : pm_fd 4 31 = some (4, 6, 2) := by decide +kernel
theorem fd4_34 : pm_fd 4 34 = some (4, 7, 0) := by decide +kernel
theorem p62_60 : pm_pF 62 60 63 4 7 0 := ⟨_, c62_60, by rw [k62]; exact fd4_34, by decide, by decide +kernel⟩
theorem fd4_38 : pm_fd 4 38 = some (4, 8, 0) := by decide +kernel
theorem p62_65 : pm_pF 62 65 68 4 8 0 := ⟨_, c62_65, by rw [k62]; exact fd4_38, by decide, by decide +kernel⟩
theorem fd4_41 : pm_fd 4 41 = some (4, 9, 0) := by decide +kernel
theorem p62_70 : pm_pF 62 70 73 4 9 0 := ⟨_, c62_70, by rw [k62]; exact fd4_41, by decide, by decide +kernel⟩
theorem fd4_44 : pm_fd 4 44 = some (4, 10, 0) := by decide +kernel
theorem p62_75 : pm_pF 62 75 78 4 10 0 := ⟨_, c62_75, by rw [k62]; exact fd4_44, by decide, by decide +kernel⟩
theorem fd4_47 : pm_fd 4 47 = some (4, 11, 0) := by decide +kernel
theorem p62_80 : pm_pF 62 80 83 4 11 0 := ⟨_, c62_80, by rw [k62]; exact fd4_47, by decide, by decide +kernel⟩
theorem fd4_50 : pm_fd 4 50 = some (4, 12, 0) := by decide +kernel
theorem p62_85 : pm_pF 62 85 88 4 12 0 := ⟨_, c62_85, by rw [k62]; exact fd4_50, by decide, by decide +kernel⟩
theorem tg4_57 : pm_tg 4 57 = some (64, 1, 1, false) := by decide +kernel
theorem q63_2 : pm_cF 63 2 5 64 1 2 := ⟨_, _, _, _, c63_2, rfl, by rw [k63]; exact tg4_57, rfl⟩
theorem tg4_61 : pm_tg 4 61 = some (67, 1, 1, false) := by decide +kernel
theorem q63_7 : pm_cF 63 7 10 67 1 2 := ⟨_, _, _, _, c63_7, rfl, by rw [k63]; exact tg4_61, rfl⟩
theorem g63_22 : pm_gF 63 22 25 4 0 2 := ⟨_, c63_22, by rw [k63]; exact fd4_11⟩
theorem g63_30 : pm_gF 63 30 33 4 0 2 := ⟨_, c63_30, by rw [k63]; exact fd4_11⟩
theorem tg4_65 : pm_tg 4 65 = some (36, 1, 1, false) := by decide +kernel
theorem q63_44 : pm_cF 63 44 47 36 1 2 := ⟨_, _, _, _, c63_44, rfl, by rw [k63]; exact tg4_65, rfl⟩
theorem g63_49 : pm_gF 63 49 52 4 7 0 := ⟨_, c63_49, by rw [k63]; exact fd4_34⟩
theorem g63_63 : pm_gF 63 63 66 4 2 2 := ⟨_, c63_63, by rw [k63]; exact fd4_19⟩
theorem tg4_70 : pm_tg 4 70 = some (160, 2, 0, true) := by decide +kernel
theorem q63_68 : pm_cF 63 68 71 160 0 2 := ⟨_, _, _, _, c63_68, rfl, by rw [k63]; exact tg4_70, rfl⟩
theorem tg4_74 : pm_tg 4 74 = some (68, 3, 1, false) := by decide +kernel
theorem q63_78 : pm_cF 63 78 81 68 1 4 := ⟨_, _, _, _, c63_78, rfl, by rw [k63]; exact tg4_74, rfl⟩
theorem g63_94 : pm_gF 63 94 97 4 0 2 := ⟨_, c63_94, by rw [k63]; exact fd4_11⟩
theorem g63_102 : pm_gF 63 102 105 4 0 2 := ⟨_, c63_102, by rw [k63]; exact fd4_11⟩
theorem tg4_78 : pm_tg 4 78 = some (73, 1, 1, false) := by decide +kernel
theorem q63_111 : pm_cF 63 111 114 73 1 2 := ⟨_, _, _, _, c63_111, rfl, by rw [k63]; exact tg4_78, rfl⟩
theorem p64_2 : pm_pF 64 2 5 4 7 0 := ⟨_, c64_2, by rw [k64]; exact fd4_34, by decide, by decide +kernel⟩
theorem tg4_82 : pm_tg 4 82 = some (37, 0, 1, false) := by decide +kernel
theorem q64_7 : pm_cF 64 7 10 37 1 1 := ⟨_, _, _, _, c64_7, rfl, by rw [k64]; exact tg4_82, rfl⟩
theorem tg4_86 : pm_tg 4 86 = some (92, 0, 1, false) := by decide +kernel
theorem q64_10 : pm_cF 64 10 13 92 1 1 := ⟨_, _, _, _, c64_10, rfl, by rw [k64]; exact tg4_86, rfl⟩
theorem p64_13 : pm_pF 64 13 16 4 8 0 := ⟨_, c64_13, by rw [k64]; exact fd4_38, by decide, by decide +kernel⟩
theorem g64_25 : pm_gF 64 25 28 4 1 2 := ⟨_, c64_25, by rw [k64]; exact fd4_15⟩
theorem tg4_91 : pm_tg 4 91 = some (159, 3, 0, true) := by decide +kernel
theorem q64_30 : pm_cF 64 30 33 159 0 3 := ⟨_, _, _, _, c64_30, rfl, by rw [k64]; exact tg4_91, rfl⟩
theorem q64_35 : pm_cF 64 35 38 37 1 1 := ⟨_, _, _, _, c64_35, rfl, by rw [k64]; exact tg4_82, rfl⟩
theorem tg4_95 : pm_tg 4 95 = some (81, 0, 1, false) := by decide +kernel
theorem q64_38 : pm_cF 64 38 41 81 1 1 := ⟨_, _, _, _, c64_38, rfl, by rw [k64]; exact tg4_95, rfl⟩
theorem tg4_98 : pm_tg 4 98 = some (30, 2, 1, false) := by decide +kernel
theorem q64_47 : pm_cF 64 47 50 30 1 3 := ⟨_, _, _, _, c64_47, rfl, by rw [k64]; exact tg4_98, rfl⟩
theorem tg4_102 : pm_tg 4 102 = some (65, 2, 1, false) := by decide +kernel
theorem q64_56 : pm_cF 64 56 59 65 1 3 := ⟨_, _, _, _, c64_56, rfl, by rw [k64]; exact tg4_102, rfl⟩
theorem q65_2 : pm_cF 65 2 5 37 1 1 := ⟨_, _, _, _, c65_2, rfl, by rw [k65]; exact tg4_82, rfl⟩
theorem tg4_106 : pm_tg 4 106 = some (66, 2, 1, false) := by decide +kernel
theorem q65_6 : pm_cF 65 6 9 66 1 3 := ⟨_, _, _, _, c65_6, rfl, by rw [k65]; exact tg4_106, rfl⟩
theorem g65_16 : pm_gF 65 16 19 4 7 0 := ⟨_, c65_16, by rw [k65]; exact fd4_34⟩
theorem g65_22 : pm_gF 65 22 25 4 7 0 := ⟨_, c65_22, by rw [k65]; exact fd4_34⟩
theorem p65_27 : pm_pF 65 27 30 4 7 0 := ⟨_, c65_27, by rw [k65]; exact fd4_34, by decide, by decide +kernel⟩
theorem g65_31 : pm_gF 65 31 34 4 2 2 := ⟨_, c65_31, by rw [k65]; exact fd4_19⟩
theorem q65_36 : pm_cF 65 36 39 159 0 3 := ⟨_, _, _, _, c65_36, rfl, by rw [k65]; exact tg4_91, rfl⟩
theorem g65_49 : pm_gF 65 49 52 4 3 2 := ⟨_, c65_49, by rw [k65]; exact fd4_22⟩
theorem q65_59 : pm_cF 65 59 62 159 0 3 := ⟨_, _, _, _, c65_59, rfl, by rw [k65]; exact tg4_91, rfl⟩
theorem g65_69 : pm_gF 65 69 72 4 1 2 := ⟨_, c65_69, by rw [k65]; exact fd4_15⟩
theorem q65_74 : pm_cF 65 74 77 159 0 3 := ⟨_, _, _, _, c65_74, rfl, by rw [k65]; exact tg4_91, rfl⟩
theorem g65_78 : pm_gF 65 78 81 4 2 2 := ⟨_, c65_78, by rw [k65]; exact fd4_19⟩
theorem g65_83 : pm_gF 65 83 86 4 2 2 := ⟨_, c65_83, by rw [k65]; exact fd4_19⟩
theorem q65_87 : pm_cF 65 87 90 160 0 2 := ⟨_, _, _, _, c65_87, rfl, by rw [k65]; exact tg4_70, rfl⟩
theorem q65_92 : pm_cF 65 92 95 159 0 3 := ⟨_, _, _, _, c65_92, rfl, by rw [k65]; exact tg4_91, rfl⟩
theorem tg4_110 : pm_tg 4 110 = some (47, 1, 1, false) := by decide +kernel
theorem q65_97 : pm_cF 65 97 100 47 1 2 := ⟨_, _, _, _, c65_97, rfl, by rw [k65]; exact tg4_110, rfl⟩
theorem g65_108 : pm_gF 65 108 111 4 8 0 := ⟨_, c65_108, by rw [k65]; exact fd4_38⟩
theorem g65_123 : pm_gF 65 123 126 4 3 2 := ⟨_, c65_123, by rw [k65]; exact fd4_22⟩
theorem g65_129 : pm_gF 65 129 132 4 3 2 := ⟨_, c65_129, by rw [k65]; exact fd4_22⟩
theorem q65_134 : pm_cF 65 134 137 160 0 2 := ⟨_, _, _, _, c65_134, rfl, by rw [k65]; exact tg4_70, rfl⟩
theorem tg4_113 : pm_tg 4 113 = some (56, 3, 1, false) := by decide +kernel
theorem q65_143 : pm_cF 65 143 146 56 1 4 := ⟨_, _, _, _, c65_143, rfl, by rw [k65]; exact tg4_113, rfl⟩
theorem q65_147 : pm_cF 65 147 150 159 0 3 := ⟨_, _, _, _, c65_147, rfl, by rw [k65]; exact tg4_91, rfl⟩
theorem tg4_117 : pm_tg 4 117 = some (85, 2, 1, false) := by decide +kernel
theorem q66_10 : pm_cF 66 10 13 85 1 3 := ⟨_, _, _, _, c66_10, rfl, by rw [k66]; exact tg4_117, rfl⟩
theorem g66_17 : pm_gF 66 17 20 4 1 2 := ⟨_, c66_17, by rw [k66]; exact fd4_15⟩
theorem q66_21 : pm_cF 66 21 24 160 0 2 := ⟨_, _, _, _, c66_21, rfl, by rw [k66]; exact tg4_70, rfl⟩
theorem g66_29 : pm_gF 66 29 32 4 1 2 := ⟨_, c66_29, by rw [k66]; exact fd4_15⟩
theorem q66_33 : pm_cF 66 33 36 160 0 2 := ⟨_, _, _, _, c66_33, rfl, by rw [k66]; exact tg4_70, rfl⟩
theorem q67_2 : pm_cF 67 2 5 36 1 2 := ⟨_, _, _, _, c67_2, rfl, by rw [k67]; exact tg4_65, rfl⟩
theorem g67_14 : pm_gF 67 14 17 4 8 0 := ⟨_, c67_14, by rw [k67]; exact fd4_38⟩
theorem g67_21 : pm_gF 67 21 24 4 4 2 := ⟨_, c67_21, by rw [k67]; exact fd4_25⟩
theorem tg4_120 : pm_tg 4 120 = some (57, 1, 1, false) := by decide +kernel
theorem q67_30 : pm_cF 67 30 33 57 1 2 := ⟨_, _, _, _, c67_30, rfl, by rw [k67]; exact tg4_120, rfl⟩
theorem tg4_123 : pm_tg 4 123 = some (363, 2, 0, false) := by decide +kernel
theorem q67_33 : pm_cF 67 33 36 363 0 2 := ⟨_, _, _, _, c67_33, rfl, by rw [k67]; exact tg4_123, rfl⟩
theorem q67_36 : pm_cF 67 36 39 159 0 3 := ⟨_, _, _, _, c67_36, rfl, by rw [k67]; exact tg4_91, rfl⟩
theorem g67_40 : pm_gF 67 40 43 4 6 2 := ⟨_, c67_40, by rw [k67]; exact fd4_31⟩
theorem q67_46 : pm_cF 67 46 49 159 0 3 := ⟨_, _, _, _, c67_46, rfl, by rw [k67]; exact tg4_91, rfl⟩
theorem g67_51 : pm_gF 67 51 54 4 4 2 := ⟨_, c67_51, by rw [k67]; exact fd4_25⟩
theorem q67_56 : pm_cF 67 56 59 160 0 2 := ⟨_, _, _, _, c67_56, rfl, by rw [k67]; exact tg4_70, rfl⟩
theorem q67_73 : pm_cF 67 73 76 363 0 2 := ⟨_, _, _, _, c67_73, rfl, by rw [k67]; exact tg4_123, rfl⟩
theorem p68_2 : pm_pF 68 2 5 4 9 0 := ⟨_, c68_2, by rw [k68]; exact fd4_41, by decide, by decide +kernel⟩
theorem g68_11 : pm_gF 68 11 14 4 8 0 := ⟨_, c68_11, by rw [k68]; exact fd4_38⟩
theorem g68_18 : pm_gF 68 18 21 4 5 2 := ⟨_, c68_18, by rw [k68]; exact fd4_28⟩
theorem g68_24 : pm_gF 68 24 27 4 4 2 := ⟨_, c68_24, by rw [k68]; exact fd4_25⟩
theorem q68_29 : pm_cF 68 29 32 160 0 2 := ⟨_, _, _, _, c68_29, rfl, by rw [k68]; exact tg4_70, rfl⟩
theorem q68_32 : pm_cF 68 32 35 159 0 3 := ⟨_, _, _, _, c68_32, rfl, by rw [k68]; exact tg4_91, rfl⟩
theorem g68_50 : pm_gF 68 50 53 4 9 0 := ⟨_, c68_50, by rw [k68]; exact fd4_41⟩
theorem g68_60 : pm_gF 68 60 63 4 0 2 := ⟨_, c68_60, by rw [k68]; exact fd4_11⟩
theorem g68_68 : pm_gF 68 68 71 4 0 2 := ⟨_, c68_68, by rw [k68]; exact fd4_11⟩
theorem tg4_129 : pm_tg 4 129 = some (69, 2, 1, false) := by decide +kernel
theorem q68_77 : pm_cF 68 77 80 69 1 3 := ⟨_, _, _, _, c68_77, rfl, by rw [k68]; exact tg4_129, rfl⟩
theorem tg4_133 : pm_tg 4 133 = some (72, 0, 1, false) := by decide +kernel
theorem q68_82 : pm_cF 68 82 85 72 1 1 := ⟨_, _, _, _, c68_82, rfl, by rw [k68]; exact tg4_133, rfl⟩
theorem tg4_136 : pm_tg 4 136 = some (70, 1, 1, false) := by decide +kernel
theorem q69_2 : pm_cF 69 2 5 70 1 2 := ⟨_, _, _, _, c69_2, rfl, by rw [k69]; exact tg4_136, rfl⟩
theorem tg4_140 : pm_tg 4 140 = some (71, 1, 0, false) := by decide +kernel
theorem q69_7 : pm_cF 69 7 10 71 0 1 := ⟨_, _, _, _, c69_7, rfl, by rw [k69]; exact tg4_140, rfl⟩
theorem g69_18 : pm_gF 69 18 21 4 8 0 := ⟨_, c69_18, by rw [k69]; exact fd4_38⟩
theorem g69_25 : pm_gF 69 25 28 4 5 2 := ⟨_, c69_25, by rw [k69]; exact fd4_28⟩
theorem q69_30 : pm_cF 69 30 33 160 0 2 := ⟨_, _, _, _, c69_30, rfl, by rw [k69]; exact tg4_70, rfl⟩
theorem g69_34 : pm_gF 69 34 37 4 2 2 := ⟨_, c69_34, by rw [k69]; exact fd4_19⟩
theorem q69_38 : pm_cF 69 38 41 160 0 2 := ⟨_, _, _, _, c69_38, rfl, by rw [k69]; exact tg4_70, rfl⟩
theorem g69_45 : pm_gF 69 45 48 4 3 2 := ⟨_, c69_45, by rw [k69]; exact fd4_22⟩
theorem q69_54 : pm_cF 69 54 57 160 0 2 := ⟨_, _, _, _, c69_54, rfl, by rw [k69]; exact tg4_70, rfl⟩
theorem g69_76 : pm_gF 69 76 79 4 2 2 := ⟨_, c69_76, by rw [k69]; exact fd4_19⟩
theorem q69_80 : pm_cF 69 80 83 160 0 2 := ⟨_, _, _, _, c69_80, rfl, by rw [k69]; exact tg4_70, rfl⟩
theorem g69_84 : pm_gF 69 84 87 4 6 2 := ⟨_, c69_84, by rw [k69]; exact fd4_31⟩
theorem q69_89 : pm_cF 69 89 92 160 0 2 := ⟨_, _, _, _, c69_89, rfl, by rw [k69]; exact tg4_70, rfl⟩
theorem q69_94 : pm_cF 69 94 97 70 1 2 := ⟨_, _, _, _, c69_94, rfl, by rw [k69]; exact tg4_136, rfl⟩
theorem tg4_143 : pm_tg 4 143 = some (364, 2, 0, false) := by decide +kernel
theorem q69_108 : pm_cF 69 108 111 364 0 2 := ⟨_, _, _, _, c69_108, rfl, by rw [k69]; exact tg4_143, rfl⟩
theorem g70_6 : pm_gF 70 6 9 4 0 2 := ⟨_, c70_6, by rw [k70]; exact fd4_11⟩
theorem g70_14 : pm_gF 70 14 17 4 0 2 := ⟨_, c70_14, by rw [k70]; exact fd4_11⟩
theorem g72_4 : pm_gF 72 4 7 4 8 0 := ⟨_, c72_4, by rw [k72]; exact fd4_38⟩
theorem g72_11 : pm_gF 72 11 14 4 5 2 := ⟨_, c72_11, by rw [k72]; exact fd4_28⟩
theorem q72_15 : pm_cF 72 15 18 160 0 2 := ⟨_, _, _, _, c72_15, rfl, by rw [k72]; exact tg4_70, rfl⟩
theorem g72_24 : pm_gF 72 24 27 4 5 2 := ⟨_, c72_24, by rw [k72]; exact fd4_28⟩
theorem q72_31 : pm_cF 72 31 34 159 0 3 := ⟨_, _, _, _, c72_31, rfl, by rw [k72]; exact tg4_91, rfl⟩
theorem g72_36 : pm_gF 72 36 39 4 9 0 := ⟨_, c72_36, by rw [k72]; exact fd4_41⟩
theorem p72_41 : pm_pF 72 41 44 4 9 0 := ⟨_, c72_41, by rw [k72]; exact fd4_41, by decide, by decide +kernel⟩
theorem g72_46 : pm_gF 72 46 49 4 5 2 := ⟨_, c72_46, by rw [k72]; exact fd4_28⟩
theorem g72_51 : pm_gF 72 51 54 4 4 2 := ⟨_, c72_51, by rw [k72]; exact fd4_25⟩
theorem q72_55 : pm_cF 72 55 58 160 0 2 := ⟨_, _, _, _, c72_55, rfl, by rw [k72]; exact tg4_70, rfl⟩
theorem q72_58 : pm_cF 72 58 61 159 0 3 := ⟨_, _, _, _, c72_58, rfl, by rw [k72]; exact tg4_91, rfl⟩
theorem g72_63 : pm_gF 72 63 66 4 9 0 := ⟨_, c72_63, by rw [k72]; exact fd4_41⟩
theorem g72_67 : pm_gF 72 67 70 4 4 2 := ⟨_, c72_67, by rw [k72]; exact fd4_25⟩
theorem q72_71 : pm_cF 72 71 74 160 0 2 := ⟨_, _, _, _, c72_71, rfl, by rw [k72]; exact tg4_70, rfl⟩
theorem p72_75 : pm_pF 72 75 78 4 9 0 := ⟨_, c72_75, by rw [k72]; exact fd4_41, by decide, by decide +kernel⟩
theorem ct4_147 : pm_ct 4 147 = some (.long 16777215) := by decide +kernel
theorem v73_3 : pm_kF2 73 3 6 (.long 16777215) := ⟨_, c73_3, by rw [k73]; exact ct4_147⟩
theorem p73_8 : pm_pF 73 8 11 4 12 0 := ⟨_, c73_8, by rw [k73]; exact fd4_50, by decide, by decide +kernel⟩
theorem g73_14 : pm_gF 73 14 17 4 12 0 := ⟨_, c73_14, by rw [k73]; exact fd4_50⟩
theorem p73_23 : pm_pF 73 23 26 4 10 0 := ⟨_, c73_23, by rw [k73]; exact fd4_44, by decide, by decide +kernel⟩
theorem p73_28 : pm_pF 73 28 31 4 11 0 := ⟨_, c73_28, by rw [k73]; exact fd4_47, by decide, by decide +kernel⟩
theorem g73_35 : pm_gF 73 35 38 4 7 0 := ⟨_, c73_35, by rw [k73]; exact fd4_34⟩
theorem tg4_53 : pm_tg 4 53 = some (74, 1, 1, false) := by decide +kernel
theorem q73_43 : pm_cF 73 43 46 74 1 2 := ⟨_, _, _, _, c73_43, rfl, by rw [k73]; exact tg4_53, rfl⟩
theorem g73_52 : pm_gF 73 52 55 4 11 0 := ⟨_, c73_52, by rw [k73]; exact fd4_47⟩
theorem g73_56 : pm_gF 73 56 59 4 2 2 := ⟨_, c73_56, by rw [k73]; exact fd4_19⟩
theorem q73_60 : pm_cF 73 60 63 160 0 2 := ⟨_, _, _, _, c73_60, rfl, by rw [k73]; exact tg4_70, rfl⟩
theorem p73_64 : pm_pF 73 64 67 4 11 0 := ⟨_, c73_64, by rw [k73]; exact fd4_47, by decide, by decide +kernel⟩
theorem g74_9 : pm_gF 74 9 12 4 12 0 := ⟨_, c74_9, by rw [k74]; exact fd4_50⟩
theorem q74_13 : pm_cF 74 13 16 71 0 1 := ⟨_, _, _, _, c74_13, rfl, by rw [k74]; exact tg4_140, rfl⟩
theorem g75_1 : pm_gF 75 1 4 4 10 0 := ⟨_, c75_1, by rw [k75]; exact fd4_44⟩
theorem g76_1 : pm_gF 76 1 4 4 11 0 := ⟨_, c76_1, by rw [k76]; exact fd4_47⟩
theorem g77_6 : pm_gF 77 6 9 4 1 2 := ⟨_, c77_6, by rw [k77]; exact fd4_15⟩
theorem g77_15 : pm_gF 77 15 18 4 1 2 := ⟨_, c77_15, by rw [k77]; exact fd4_15⟩
theorem q77_20 : pm_cF 77 20 23 74 1 2 := ⟨_, _, _, _, c77_20, rfl, by rw [k77]; exact tg4_53, rfl⟩
theorem fd5_9 : pm_fd 5 9 = some (5, 0, 2) := by decide +kernel
theorem fd5_15 : pm_fd 5 15 = some (5, 1, 2) := by decide +kernel
theorem fd5_18 : pm_fd 5 18 = some (5, 2, 2) := by decide +kernel
theorem fd5_21 : pm_fd 5 21 = some (5, 3, 2) := by decide +kernel
theorem fd5_24 : pm_fd 5 24 = some (5, 4, 2) := by decide +kernel
theorem fd5_27 : pm_fd 5 27 = some (5, 5, 2) := by decide +kernel
theorem fd5_30 : pm_fd 5 30 = some (5, 6, 2) := by decide +kernel
theorem fd5_33 : pm_fd 5 33 = some (5, 7, 0) := by decide +kernel
theorem p78_59 : pm_pF 78 59 62 5 7 0 := ⟨_, c78_59, by rw [k78]; exact fd5_33, by decide, by decide +kernel⟩
theorem fd5_37 : pm_fd 5 37 = some (5, 8, 0) := by decide +kernel
theorem p78_64 : pm_pF 78 64 67 5 8 0 := ⟨_, c78_64, by rw [k78]; exact fd5_37, by decide, by decide +kernel⟩
theorem fd5_40 : pm_fd 5 40 = some (5, 9, 0) := by decide +kernel
theorem p78_70 : pm_pF 78 70 73 5 9 0 := ⟨_, c78_70, by rw [k78]; exact fd5_40, by decide, by decide +kernel⟩
theorem fd5_43 : pm_fd 5 43 = some (5, 10, 0) := by decide +kernel
theorem p78_76 : pm_pF 78 76 79 5 10 0 := ⟨_, c78_76, by rw [k78]; exact fd5_43, by decide, by decide +kernel⟩
theorem g79_1 : pm_gF 79 1 4 5 3 2 := ⟨_, c79_1, by rw [k79]; exact fd5_21⟩
theorem tg5_46 : pm_tg 5 46 = some (160, 2, 0, true) := by decide +kernel
theorem q79_5 : pm_cF 79 5 8 160 0 2 := ⟨_, _, _, _, c79_5, rfl, by rw [k79]; exact tg5_46, rfl⟩
theorem g80_1 : pm_gF 80 1 4 5 9 0 := ⟨_, c80_1, by rw [k80]; exact fd5_40⟩
theorem g81_1 : pm_gF 81 1 4 5 7 0 := ⟨_, c81_1, by rw [k81]; exact fd5_33⟩
theorem g82_1 : pm_gF 82 1 4 5 0 2 := ⟨_, c82_1, by rw [k82]; exact fd5_9⟩
theorem q82_5 : pm_cF 82 5 8 160 0 2 := ⟨_, _, _, _, c82_5, rfl, by rw [k82]; exact tg5_46, rfl⟩
theorem g83_1 : pm_gF 83 1 4 5 1 2 := ⟨_, c83_1, by rw [k83]; exact fd5_15⟩
theorem q83_5 : pm_cF 83 5 8 160 0 2 := ⟨_, _, _, _, c83_5, rfl, by rw [k83]; exact tg5_46, rfl⟩
theorem g84_1 : pm_gF 84 1 4 5 2 2 := ⟨_, c84_1, by rw [k84]; exact fd5_18⟩
theorem q84_5 : pm_cF 84 5 8 160 0 2 := ⟨_, _, _, _, c84_5, rfl, by rw [k84]; exact tg5_46, rfl⟩
theorem g84_17 : pm_gF 84 17 20 5 7 0 := ⟨_, c84_17, by rw [k84]; exact fd5_33⟩
theorem g84_34 : pm_gF 84 34 37 5 2 2 := ⟨_, c84_34, by rw [k84]; exact fd5_18⟩
theorem q84_39 : pm_cF 84 39 42 160 0 2 := ⟨_, _, _, _, c84_39, rfl, by rw [k84]; exact tg5_46, rfl⟩
theorem tg5_50 : pm_tg 5 50 = some (84, 1, 1, false) := by decide +kernel
theorem q85_2 : pm_cF 85 2 5 84 1 2 := ⟨_, _, _, _, c85_2, rfl, by rw [k85]; exact tg5_50, rfl⟩
theorem p86_2 : pm_pF 86 2 5 5 7 0 := ⟨_, c86_2, by rw [k86]; exact fd5_33, by decide, by decide +kernel⟩
theorem p86_7 : pm_pF 86 7 10 5 8 0 := ⟨_, c86_7, by rw [k86]; exact fd5_37, by decide, by decide +kernel⟩
theorem p86_13 : pm_pF 86 13 16 5 9 0 := ⟨_, c86_13, by rw [k86]; exact fd5_40, by decide, by decide +kernel⟩
theorem p86_19 : pm_pF 86 19 22 5 10 0 := ⟨_, c86_19, by rw [k86]; exact fd5_43, by decide, by decide +kernel⟩
theorem tg5_54 : pm_tg 5 54 = some (131, 0, 1, false) := by decide +kernel
theorem q86_31 : pm_cF 86 31 34 131 1 1 := ⟨_, _, _, _, c86_31, rfl, by rw [k86]; exact tg5_54, rfl⟩
theorem tg5_60 : pm_tg 5 60 = some (87, 2, 1, false) := by decide +kernel
theorem q86_50 : pm_cF 86 50 53 87 1 3 := ⟨_, _, _, _, c86_50, rfl, by rw [k86]; exact tg5_60, rfl⟩
theorem tg5_64 : pm_tg 5 64 = some (88, 1, 0, false) := by decide +kernel
theorem q87_1 : pm_cF 87 1 4 88 0 1 := ⟨_, _, _, _, c87_1, rfl, by rw [k87]; exact tg5_64, rfl⟩
theorem tg5_68 : pm_tg 5 68 = some (133, 1, 1, false) := by decide +kernel
theorem q87_12 : pm_cF 87 12 15 133 1 2 := ⟨_, _, _, _, c87_12, rfl, by rw [k87]; exact tg5_68, rfl⟩
theorem g87_25 : pm_gF 87 25 28 5 7 0 := ⟨_, c87_25, by rw [k87]; exact fd5_33⟩
theorem g87_39 : pm_gF 87 39 42 5 8 0 := ⟨_, c87_39, by rw [k87]; exact fd5_37⟩
theorem q87_48 : pm_cF 87 48 51 133 1 2 := ⟨_, _, _, _, c87_48, rfl, by rw [k87]; exact tg5_68, rfl⟩
theorem tg5_72 : pm_tg 5 72 = some (128, 0, 1, false) := by decide +kernel
theorem q87_53 : pm_cF 87 53 56 128 1 1 := ⟨_, _, _, _, c87_53, rfl, by rw [k87]; exact tg5_72, rfl⟩
theorem tg5_75 : pm_tg 5 75 = some (89, 1, 1, false) := by decide +kernel
theorem q87_90 : pm_cF 87 90 93 89 1 2 := ⟨_, _, _, _, c87_90, rfl, by rw [k87]; exact tg5_75, rfl⟩
theorem tg5_79 : pm_tg 5 79 = some (90, 1, 1, false) := by decide +kernel
theorem q87_98 : pm_cF 87 98 101 90 1 2 := ⟨_, _, _, _, c87_98, rfl, by rw [k87]; exact tg5_79, rfl⟩
theorem tg5_82 : pm_tg 5 82 = some (91, 1, 1, false) := by decide +kernel
theorem q87_106 : pm_cF 87 106 109 91 1 2 := ⟨_, _, _, _, c87_106, rfl, by rw [k87]; exact tg5_82, rfl⟩
theorem tg5_85 : pm_tg 5 85 = some (134, 2, 1, false) := by decide +kernel
theorem q87_118 : pm_cF 87 118 121 134 1 3 := ⟨_, _, _, _, c87_118, rfl, by rw [k87]; exact tg5_85, rfl⟩
theorem p87_121 : pm_pF 87 121 124 5 9 0 := ⟨_, c87_121, by rw [k87]; exact fd5_40, by decide, by decide +kernel⟩
theorem q87_132 : pm_cF 87 132 135 134 1 3 := ⟨_, _, _, _, c87_132, rfl, by rw [k87]; exact tg5_85, rfl⟩
theorem p87_135 : pm_pF 87 135 138 5 10 0 := ⟨_, c87_135, by rw [k87]; exact fd5_43, by decide, by decide +kernel⟩
theorem tg5_89 : pm_tg 5 89 = some (135, 1, 1, false) := by decide +kernel
theorem q87_141 : pm_cF 87 141 144 135 1 2 := ⟨_, _, _, _, c87_141, rfl, by rw [k87]; exact tg5_89, rfl⟩
theorem ct5_93 : pm_ct 5 93 = some (.retAddr 4) := by decide +kernel
theorem v88_1 : pm_kF 88 1 3 (.retAddr 4) := ⟨_, _, c88_1, Or.inl rfl, by rw [k88]; exact ct5_93⟩
theorem tg5_95 : pm_tg 5 95 = some (132, 1, 1, false) := by decide +kernel
theorem q88_3 : pm_cF 88 3 6 132 1 2 := ⟨_, _, _, _, c88_3, rfl, by rw [k88]; exact tg5_95, rfl⟩
theorem ct5_99 : pm_ct 5 99 = some (.retAddr 6) := by decide +kernel
theorem v88_12 : pm_kF 88 12 14 (.retAddr 6) := ⟨_, _, c88_12, Or.inl rfl, by rw [k88]; exact ct5_99⟩
theorem q88_14 : pm_cF 88 14 17 132 1 2 := ⟨_, _, _, _, c88_14, rfl, by rw [k88]; exact tg5_95, rfl⟩
theorem ct5_101 : pm_ct 5 101 = some (.retAddr 8) := by decide +kernel
theorem v88_23 : pm_kF 88 23 25 (.retAddr 8) := ⟨_, _, c88_23, Or.inl rfl, by rw [k88]; exact ct5_101⟩
theorem q88_25 : pm_cF 88 25 28 132 1 2 := ⟨_, _, _, _, c88_25, rfl, by rw [k88]; exact tg5_95, rfl⟩
theorem ct5_103 : pm_ct 5 103 = some (.retAddr 10) := by decide +kernel
theorem v88_34 : pm_kF 88 34 36 (.retAddr 10) := ⟨_, _, c88_34, Or.inl rfl, by rw [k88]; exact ct5_103⟩
theorem q88_36 : pm_cF 88 36 39 132 1 2 := ⟨_, _, _, _, c88_36, rfl, by rw [k88]; exact tg5_95, rfl⟩
theorem ct5_104 : pm_ct 5 104 = some (.retAddr 12) := by decide +kernel
theorem v88_45 : pm_kF 88 45 47 (.retAddr 12) := ⟨_, _, c88_45, Or.inl rfl, by rw [k88]; exact ct5_104⟩
theorem q88_47 : pm_cF 88 47 50 132 1 2 := ⟨_, _, _, _, c88_47, rfl, by rw [k88]; exact tg5_95, rfl⟩
theorem g89_1 : pm_gF 89 1 4 5 0 2 := ⟨_, c89_1, by rw [k89]; exact fd5_9⟩
theorem g89_5 : pm_gF 89 5 8 5 7 0 := ⟨_, c89_5, by rw [k89]; exact fd5_33⟩
theorem q89_12 : pm_cF 89 12 15 134 1 3 := ⟨_, _, _, _, c89_12, rfl, by rw [k89]; exact tg5_85, rfl⟩
theorem tg5_106 : pm_tg 5 106 = some (159, 3, 0, true) := by decide +kernel
theorem q89_15 : pm_cF 89 15 18 159 0 3 := ⟨_, _, _, _, c89_15, rfl, by rw [k89]; exact tg5_106, rfl⟩
theorem g89_19 : pm_gF 89 19 22 5 1 2 := ⟨_, c89_19, by rw [k89]; exact fd5_15⟩
theorem g89_23 : pm_gF 89 23 26 5 7 0 := ⟨_, c89_23, by rw [k89]; exact fd5_33⟩
theorem q89_29 : pm_cF 89 29 32 134 1 3 := ⟨_, _, _, _, c89_29, rfl, by rw [k89]; exact tg5_85, rfl⟩
theorem q89_32 : pm_cF 89 32 35 159 0 3 := ⟨_, _, _, _, c89_32, rfl, by rw [k89]; exact tg5_106, rfl⟩
theorem g89_36 : pm_gF 89 36 39 5 2 2 := ⟨_, c89_36, by rw [k89]; exact fd5_18⟩
theorem g89_40 : pm_gF 89 40 43 5 7 0 := ⟨_, c89_40, by rw [k89]; exact fd5_33⟩
theorem q89_46 : pm_cF 89 46 49 134 1 3 := ⟨_, _, _, _, c89_46, rfl, by rw [k89]; exact tg5_85, rfl⟩
theorem q89_49 : pm_cF 89 49 52 159 0 3 := ⟨_, _, _, _, c89_49, rfl, by rw [k89]; exact tg5_106, rfl⟩
theorem g89_53 : pm_gF 89 53 56 5 3 2 := ⟨_, c89_53, by rw [k89]; exact fd5_21⟩
theorem g89_57 : pm_gF 89 57 60 5 7 0 := ⟨_, c89_57, by rw [k89]; exact fd5_33⟩
theorem q89_61 : pm_cF 89 61 64 159 0 3 := ⟨_, _, _, _, c89_61, rfl, by rw [k89]; exact tg5_106, rfl⟩
theorem g89_66 : pm_gF 89 66 69 5 7 0 := ⟨_, c89_66, by rw [k89]; exact fd5_33⟩
theorem p89_71 : pm_pF 89 71 74 5 7 0 := ⟨_, c89_71, by rw [k89]; exact fd5_33, by decide, by decide +kernel⟩
theorem g90_1 : pm_gF 90 1 4 5 4 2 := ⟨_, c90_1, by rw [k90]; exact fd5_24⟩
theorem g90_5 : pm_gF 90 5 8 5 8 0 := ⟨_, c90_5, by rw [k90]; exact fd5_37⟩
theorem q90_11 : pm_cF 90 11 14 134 1 3 := ⟨_, _, _, _, c90_11, rfl, by rw [k90]; exact tg5_85, rfl⟩
theorem q90_14 : pm_cF 90 14 17 159 0 3 := ⟨_, _, _, _, c90_14, rfl, by rw [k90]; exact tg5_106, rfl⟩
theorem g90_18 : pm_gF 90 18 21 5 5 2 := ⟨_, c90_18, by rw [k90]; exact fd5_27⟩
theorem g90_22 : pm_gF 90 22 25 5 8 0 := ⟨_, c90_22, by rw [k90]; exact fd5_37⟩
theorem q90_29 : pm_cF 90 29 32 134 1 3 := ⟨_, _, _, _, c90_29, rfl, by rw [k90]; exact tg5_85, rfl⟩
theorem q90_32 : pm_cF 90 32 35 159 0 3 := ⟨_, _, _, _, c90_32, rfl, by rw [k90]; exact tg5_106, rfl⟩
theorem g90_36 : pm_gF 90 36 39 5 6 2 := ⟨_, c90_36, by rw [k90]; exact fd5_30⟩
theorem g90_40 : pm_gF 90 40 43 5 8 0 := ⟨_, c90_40, by rw [k90]; exact fd5_37⟩
theorem q90_46 : pm_cF 90 46 49 134 1 3 := ⟨_, _, _, _, c90_46, rfl, by rw [k90]; exact tg5_85, rfl⟩
theorem q90_49 : pm_cF 90 49 52 159 0 3 := ⟨_, _, _, _, c90_49, rfl, by rw [k90]; exact tg5_106, rfl⟩
theorem g90_54 : pm_gF 90 54 57 5 8 0 := ⟨_, c90_54, by rw [k90]; exact fd5_37⟩
theorem p90_59 : pm_pF 90 59 62 5 8 0 := ⟨_, c90_59, by rw [k90]; exact fd5_37, by decide, by decide +kernel⟩
theorem g91_3 : pm_gF 91 3 6 5 7 0 := ⟨_, c91_3, by rw [k91]; exact fd5_33⟩
theorem q91_8 : pm_cF 91 8 11 134 1 3 := ⟨_, _, _, _, c91_8, rfl, by rw [k91]; exact tg5_85, rfl⟩
theorem g91_13 : pm_gF 91 13 16 5 3 2 := ⟨_, c91_13, by rw [k91]; exact fd5_21⟩
theorem q91_22 : pm_cF 91 22 25 134 1 3 := ⟨_, _, _, _, c91_22, rfl, by rw [k91]; exact tg5_85, rfl⟩
theorem q91_25 : pm_cF 91 25 28 159 0 3 := ⟨_, _, _, _, c91_25, rfl, by rw [k91]; exact tg5_106, rfl⟩
theorem g92_1 : pm_gF 92 1 4 5 8 0 := ⟨_, c92_1, by rw [k92]; exact fd5_37⟩
theorem g93_1 : pm_gF 93 1 4 5 10 0 := ⟨_, c93_1, by rw [k93]; exact fd5_43⟩
theorem g94_1 : pm_gF 94 1 4 5 6 2 := ⟨_, c94_1, by rw [k94]; exact fd5_30⟩
theorem q94_5 : pm_cF 94 5 8 160 0 2 := ⟨_, _, _, _, c94_5, rfl, by rw [k94]; exact tg5_46, rfl⟩
theorem g95_6 : pm_gF 95 6 9 5 7 0 := ⟨_, c95_6, by rw [k95]; exact fd5_33⟩
theorem g96_1 : pm_gF 96 1 4 5 2 2 := ⟨_, c96_1, by rw [k96]; exact fd5_18⟩
theorem q96_5 : pm_cF 96 5 8 160 0 2 := ⟨_, _, _, _, c96_5, rfl, by rw [k96]; exact tg5_46, rfl⟩
theorem g97_6 : pm_gF 97 6 9 5 8 0 := ⟨_, c97_6, by rw [k97]; exact fd5_37⟩
theorem g98_1 : pm_gF 98 1 4 5 4 2 := ⟨_, c98_1, by rw [k98]; exact fd5_24⟩
theorem q98_5 : pm_cF 98 5 8 160 0 2 := ⟨_, _, _, _, c98_5, rfl, by rw [k98]; exact tg5_46, rfl⟩
theorem g99_1 : pm_gF 99 1 4 5 5 2 := ⟨_, c99_1, by rw [k99]; exact fd5_27⟩
theorem q99_5 : pm_cF 99 5 8 160 0 2 := ⟨_, _, _, _, c99_5, rfl, by rw [k99]; exact tg5_46, rfl⟩
theorem fd6_11 : pm_fd 6 11 = some (6, 0, 2) := by decide +kernel
theorem tg6_15 : pm_tg 6 15 = some (102, 3, 1, false) := by decide +kernel
theorem q101_20 : pm_cF 101 20 23 102 1 4 := ⟨_, _, _, _, c101_20, rfl, by rw [k101]; exact tg6_15, rfl⟩
theorem q101_33 : pm_cF 101 33 36 102 1 4 := ⟨_, _, _, _, c101_33, rfl, by rw [k101]; exact tg6_15, rfl⟩
theorem q101_41 : pm_cF 101 41 44 102 1 4 := ⟨_, _, _, _, c101_41, rfl, by rw [k101]; exact tg6_15, rfl⟩
theorem tg6_19 : pm_tg 6 19 = some (79, 1, 1, false) := by decide +kernel
theorem q101_50 : pm_cF 101 50 53 79 1 2 := ⟨_, _, _, _, c101_50, rfl, by rw [k101]; exact tg6_19, rfl⟩
theorem q101_53 : pm_cF 101 53 56 102 1 4 := ⟨_, _, _, _, c101_53, rfl, by rw [k101]; exact tg6_15, rfl⟩
theorem tg6_25 : pm_tg 6 25 = some (103, 1, 1, false) := by decide +kernel
theorem q101_64 : pm_cF 101 64 67 103 1 2 := ⟨_, _, _, _, c101_64, rfl, by rw [k101]; exact tg6_25, rfl⟩
theorem tg6_29 : pm_tg 6 29 = some (80, 0, 1, false) := by decide +kernel
theorem q101_69 : pm_cF 101 69 72 80 1 1 := ⟨_, _, _, _, c101_69, rfl, by rw [k101]; exact tg6_29, rfl⟩
theorem tg6_33 : pm_tg 6 33 = some (104, 1, 1, false) := by decide +kernel
theorem q101_72 : pm_cF 101 72 75 104 1 2 := ⟨_, _, _, _, c101_72, rfl, by rw [k101]; exact tg6_33, rfl⟩
theorem g102_11 : pm_gF 102 11 14 6 0 2 := ⟨_, c102_11, by rw [k102]; exact fd6_11⟩
theorem tg6_40 : pm_tg 6 40 = some (159, 3, 0, true) := by decide +kernel
theorem q102_21 : pm_cF 102 21 24 159 0 3 := ⟨_, _, _, _, c102_21, rfl, by rw [k102]; exact tg6_40, rfl⟩
theorem g103_1 : pm_gF 103 1 4 6 0 2 := ⟨_, c103_1, by rw [k103]; exact fd6_11⟩
theorem q103_7 : pm_cF 103 7 10 159 0 3 := ⟨_, _, _, _, c103_7, rfl, by rw [k103]; exact tg6_40, rfl⟩
theorem g104_1 : pm_gF 104 1 4 6 0 2 := ⟨_, c104_1, by rw [k104]; exact fd6_11⟩
theorem q104_7 : pm_cF 104 7 10 159 0 3 := ⟨_, _, _, _, c104_7, rfl, by rw [k104]; exact tg6_40, rfl⟩
theorem g105_2 : pm_gF 105 2 5 6 0 2 := ⟨_, c105_2, by rw [k105]; exact fd6_11⟩
theorem tg6_44 : pm_tg 6 44 = some (164, 2, 0, true) := by decide +kernel
theorem q105_5 : pm_cF 105 5 8 164 0 2 := ⟨_, _, _, _, c105_5, rfl, by rw [k105]; exact tg6_44, rfl⟩
theorem g106_21 : pm_gF 106 21 24 6 0 2 := ⟨_, c106_21, by rw [k106]; exact fd6_11⟩
theorem tg6_36 : pm_tg 6 36 = some (160, 2, 0, true) := by decide +kernel
theorem q106_30 : pm_cF 106 30 33 160 0 2 := ⟨_, _, _, _, c106_30, rfl, by rw [k106]; exact tg6_36, rfl⟩
theorem g107_1 : pm_gF 107 1 4 6 0 2 := ⟨_, c107_1, by rw [k107]; exact fd6_11⟩
theorem q107_6 : pm_cF 107 6 9 160 0 2 := ⟨_, _, _, _, c107_6, rfl, by rw [k107]; exact tg6_36, rfl⟩
theorem g108_1 : pm_gF 108 1 4 6 0 2 := ⟨_, c108_1, by rw [k108]; exact fd6_11⟩
theorem q108_6 : pm_cF 108 6 9 160 0 2 := ⟨_, _, _, _, c108_6, rfl, by rw [k108]; exact tg6_36, rfl⟩
theorem g109_1 : pm_gF 109 1 4 6 0 2 := ⟨_, c109_1, by rw [k109]; exact fd6_11⟩
theorem q109_5 : pm_cF 109 5 8 164 0 2 := ⟨_, _, _, _, c109_5, rfl, by rw [k109]; exact tg6_44, rfl⟩
theorem fd7_9 : pm_fd 7 9 = some (7, 0, 2) := by decide +kernel
theorem fd7_15 : pm_fd 7 15 = some (7, 1, 2) := by decide +kernel
theorem fd7_18 : pm_fd 7 18 = some (7, 2, 2) := by decide +kernel
theorem fd7_21 : pm_fd 7 21 = some (7, 3, 2) := by decide +kernel
theorem fd7_24 : pm_fd 7 24 = some (7, 4, 0) := by decide +kernel
theorem p110_42 : pm_pF 110 42 45 7 4 0 := ⟨_, c110_42, by rw [k110]; exact fd7_24, by decide, by decide +kernel⟩
theorem fd7_28 : pm_fd 7 28 = some (7, 5, 0) := by decide +kernel
theorem p110_47 : pm_pF 110 47 50 7 5 0 := ⟨_, c110_47, by rw [k110]; exact fd7_28, by decide, by decide +kernel⟩
theorem fd7_31 : pm_fd 7 31 = some (7, 6, 0) := by decide +kernel
theorem p110_52 : pm_pF 110 52 55 7 6 0 := ⟨_, c110_52, by rw [k110]; exact fd7_31, by decide, by decide +kernel⟩
theorem fd7_34 : pm_fd 7 34 = some (7, 7, 0) := by decide +kernel
theorem p110_57 : pm_pF 110 57 60 7 7 0 := ⟨_, c110_57, by rw [k110]; exact fd7_34, by decide, by decide +kernel⟩
theorem p111_2 : pm_pF 111 2 5 7 4 0 := ⟨_, c111_2, by rw [k111]; exact fd7_24, by decide, by decide +kernel⟩
theorem tg7_37 : pm_tg 7 37 = some (131, 0, 1, false) := by decide +kernel
theorem q111_15 : pm_cF 111 15 18 131 1 1 := ⟨_, _, _, _, c111_15, rfl, by rw [k111]; exact tg7_37, rfl⟩
theorem tg7_43 : pm_tg 7 43 = some (112, 3, 1, false) := by decide +kernel
theorem q111_25 : pm_cF 111 25 28 112 1 4 := ⟨_, _, _, _, c111_25, rfl, by rw [k111]; exact tg7_43, rfl⟩
theorem tg7_47 : pm_tg 7 47 = some (113, 1, 0, false) := by decide +kernel
theorem q112_1 : pm_cF 112 1 4 113 0 1 := ⟨_, _, _, _, c112_1, rfl, by rw [k112]; exact tg7_47, rfl⟩
theorem tg7_51 : pm_tg 7 51 = some (133, 1, 1, false) := by decide +kernel
theorem q112_14 : pm_cF 112 14 17 133 1 2 := ⟨_, _, _, _, c112_14, rfl, by rw [k112]; exact tg7_51, rfl⟩
theorem q112_33 : pm_cF 112 33 36 133 1 2 := ⟨_, _, _, _, c112_33, rfl, by rw [k112]; exact tg7_51, rfl⟩
theorem tg7_55 : pm_tg 7 55 = some (128, 0, 1, false) := by decide +kernel
theorem q112_38 : pm_cF 112 38 41 128 1 1 := ⟨_, _, _, _, c112_38, rfl, by rw [k112]; exact tg7_55, rfl⟩
theorem g112_42 : pm_gF 112 42 45 7 4 0 := ⟨_, c112_42, by rw [k112]; exact fd7_24⟩
theorem g112_49 : pm_gF 112 49 52 7 4 0 := ⟨_, c112_49, by rw [k112]; exact fd7_24⟩
theorem p112_54 : pm_pF 112 54 57 7 4 0 := ⟨_, c112_54, by rw [k112]; exact fd7_24, by decide, by decide +kernel⟩
theorem g112_58 : pm_gF 112 58 61 7 0 2 := ⟨_, c112_58, by rw [k112]; exact fd7_9⟩
theorem tg7_58 : pm_tg 7 58 = some (159, 3, 0, true) := by decide +kernel
theorem q112_65 : pm_cF 112 65 68 159 0 3 := ⟨_, _, _, _, c112_65, rfl, by rw [k112]; exact tg7_58, rfl⟩
theorem g112_76 : pm_gF 112 76 79 7 2 2 := ⟨_, c112_76, by rw [k112]; exact fd7_18⟩
theorem tg7_62 : pm_tg 7 62 = some (134, 2, 1, false) := by decide +kernel
theorem q112_85 : pm_cF 112 85 88 134 1 3 := ⟨_, _, _, _, c112_85, rfl, by rw [k112]; exact tg7_62, rfl⟩
theorem q112_88 : pm_cF 112 88 91 159 0 3 := ⟨_, _, _, _, c112_88, rfl, by rw [k112]; exact tg7_58, rfl⟩
theorem tg7_66 : pm_tg 7 66 = some (114, 3, 1, false) := by decide +kernel
theorem q112_97 : pm_cF 112 97 100 114 1 4 := ⟨_, _, _, _, c112_97, rfl, by rw [k112]; exact tg7_66, rfl⟩
theorem tg7_69 : pm_tg 7 69 = some (115, 3, 1, false) := by decide +kernel
theorem q112_108 : pm_cF 112 108 111 115 1 4 := ⟨_, _, _, _, c112_108, rfl, by rw [k112]; exact tg7_69, rfl⟩
theorem g112_112 : pm_gF 112 112 115 7 3 2 := ⟨_, c112_112, by rw [k112]; exact fd7_21⟩
theorem g112_118 : pm_gF 112 118 121 7 4 0 := ⟨_, c112_118, by rw [k112]; exact fd7_24⟩
theorem q112_121 : pm_cF 112 121 124 159 0 3 := ⟨_, _, _, _, c112_121, rfl, by rw [k112]; exact tg7_58, rfl⟩
theorem tg7_72 : pm_tg 7 72 = some (135, 1, 1, false) := by decide +kernel
theorem q112_127 : pm_cF 112 127 130 135 1 2 := ⟨_, _, _, _, c112_127, rfl, by rw [k112]; exact tg7_72, rfl⟩
theorem ct7_95 : pm_ct 7 95 = some (.retAddr 34) := by decide +kernel
theorem v113_1 : pm_kF 113 1 3 (.retAddr 34) := ⟨_, _, c113_1, Or.inl rfl, by rw [k113]; exact ct7_95⟩
theorem tg7_97 : pm_tg 7 97 = some (132, 1, 1, false) := by decide +kernel
theorem q113_3 : pm_cF 113 3 6 132 1 2 := ⟨_, _, _, _, c113_3, rfl, by rw [k113]; exact tg7_97, rfl⟩
theorem ct7_101 : pm_ct 7 101 = some (.retAddr 36) := by decide +kernel
theorem v113_12 : pm_kF 113 12 14 (.retAddr 36) := ⟨_, _, c113_12, Or.inl rfl, by rw [k113]; exact ct7_101⟩
theorem q113_14 : pm_cF 113 14 17 132 1 2 := ⟨_, _, _, _, c113_14, rfl, by rw [k113]; exact tg7_97, rfl⟩
theorem ct7_103 : pm_ct 7 103 = some (.retAddr 38) := by decide +kernel
theorem v113_23 : pm_kF 113 23 25 (.retAddr 38) := ⟨_, _, c113_23, Or.inl rfl, by rw [k113]; exact ct7_103⟩
theorem q113_25 : pm_cF 113 25 28 132 1 2 := ⟨_, _, _, _, c113_25, rfl, by rw [k113]; exact tg7_97, rfl⟩
theorem ct7_105 : pm_ct 7 105 = some (.retAddr 40) := by decide +kernel
theorem v113_34 : pm_kF 113 34 36 (.retAddr 40) := ⟨_, _, c113_34, Or.inl rfl, by rw [k113]; exact ct7_105⟩
theorem q113_36 : pm_cF 113 36 39 132 1 2 := ⟨_, _, _, _, c113_36, rfl, by rw [k113]; exact tg7_97, rfl⟩
theorem ct7_107 : pm_ct 7 107 = some (.retAddr 42) := by decide +kernel
theorem v113_45 : pm_kF 113 45 47 (.retAddr 42) := ⟨_, _, c113_45, Or.inl rfl, by rw [k113]; exact ct7_107⟩
theorem q113_47 : pm_cF 113 47 50 132 1 2 := ⟨_, _, _, _, c113_47, rfl, by rw [k113]; exact tg7_97, rfl⟩
theorem ct7_109 : pm_ct 7 109 = some (.retAddr 44) := by decide +kernel
theorem v113_56 : pm_kF 113 56 58 (.retAddr 44) := ⟨_, _, c113_56, Or.inl rfl, by rw [k113]; exact ct7_109⟩
theorem q113_58 : pm_cF 113 58 61 132 1 2 := ⟨_, _, _, _, c113_58, rfl, by rw [k113]; exact tg7_97, rfl⟩
theorem ct7_111 : pm_ct 7 111 = some (.retAddr 46) := by decide +kernel
theorem v113_67 : pm_kF 113 67 69 (.retAddr 46) := ⟨_, _, c113_67, Or.inl rfl, by rw [k113]; exact ct7_111⟩
theorem q113_69 : pm_cF 113 69 72 132 1 2 := ⟨_, _, _, _, c113_69, rfl, by rw [k113]; exact tg7_97, rfl⟩
theorem ct7_113 : pm_ct 7 113 = some (.retAddr 32) := by decide +kernel
theorem v113_79 : pm_kF 113 79 81 (.retAddr 32) := ⟨_, _, c113_79, Or.inl rfl, by rw [k113]; exact ct7_113⟩
theorem q113_81 : pm_cF 113 81 84 132 1 2 := ⟨_, _, _, _, c113_81, rfl, by rw [k113]; exact tg7_97, rfl⟩
theorem ct7_115 : pm_ct 7 115 = some (.retAddr 48) := by decide +kernel
theorem v113_91 : pm_kF 113 91 93 (.retAddr 48) := ⟨_, _, c113_91, Or.inl rfl, by rw [k113]; exact ct7_115⟩
theorem q113_93 : pm_cF 113 93 96 132 1 2 := ⟨_, _, _, _, c113_93, rfl, by rw [k113]; exact tg7_97, rfl⟩
theorem q114_3 : pm_cF 114 3 6 135 1 2 := ⟨_, _, _, _, c114_3, rfl, by rw [k114]; exact tg7_72, rfl⟩
theorem tg7_76 : pm_tg 7 76 = some (138, 0, 1, false) := by decide +kernel
theorem q114_18 : pm_cF 114 18 21 138 1 1 := ⟨_, _, _, _, c114_18, rfl, by rw [k114]; exact tg7_76, rfl⟩
theorem tg7_79 : pm_tg 7 79 = some (136, 1, 1, false) := by decide +kernel
theorem q114_27 : pm_cF 114 27 30 136 1 2 := ⟨_, _, _, _, c114_27, rfl, by rw [k114]; exact tg7_79, rfl⟩
theorem q114_37 : pm_cF 114 37 40 112 1 4 := ⟨_, _, _, _, c114_37, rfl, by rw [k114]; exact tg7_43, rfl⟩
theorem q114_49 : pm_cF 114 49 52 135 1 2 := ⟨_, _, _, _, c114_49, rfl, by rw [k114]; exact tg7_72, rfl⟩
theorem g115_1 : pm_gF 115 1 4 7 0 2 := ⟨_, c115_1, by rw [k115]; exact fd7_9⟩
theorem tg7_83 : pm_tg 7 83 = some (160, 2, 0, true) := by decide +kernel
theorem q115_5 : pm_cF 115 5 8 160 0 2 := ⟨_, _, _, _, c115_5, rfl, by rw [k115]; exact tg7_83, rfl⟩
theorem g115_24 : pm_gF 115 24 27 7 1 2 := ⟨_, c115_24, by rw [k115]; exact fd7_15⟩
theorem tg7_87 : pm_tg 7 87 = some (81, 0, 1, false) := by decide +kernel
theorem q115_31 : pm_cF 115 31 34 81 1 1 := ⟨_, _, _, _, c115_31, rfl, by rw [k115]; exact tg7_87, rfl⟩
theorem q115_36 : pm_cF 115 36 39 134 1 3 := ⟨_, _, _, _, c115_36, rfl, by rw [k115]; exact tg7_62, rfl⟩
theorem q115_39 : pm_cF 115 39 42 159 0 3 := ⟨_, _, _, _, c115_39, rfl, by rw [k115]; exact tg7_58, rfl⟩
theorem g115_49 : pm_gF 115 49 52 7 2 2 := ⟨_, c115_49, by rw [k115]; exact fd7_18⟩
theorem tg7_92 : pm_tg 7 92 = some (92, 0, 1, false) := by decide +kernel
theorem q115_56 : pm_cF 115 56 59 92 1 1 := ⟨_, _, _, _, c115_56, rfl, by rw [k115]; exact tg7_92, rfl⟩
theorem q115_61 : pm_cF 115 61 64 134 1 3 := ⟨_, _, _, _, c115_61, rfl, by rw [k115]; exact tg7_62, rfl⟩
theorem q115_64 : pm_cF 115 64 67 159 0 3 := ⟨_, _, _, _, c115_64, rfl, by rw [k115]; exact tg7_58, rfl⟩
theorem g115_77 : pm_gF 115 77 80 7 2 2 := ⟨_, c115_77, by rw [k115]; exact fd7_18⟩
theorem q115_85 : pm_cF 115 85 88 134 1 3 := ⟨_, _, _, _, c115_85, rfl, by rw [k115]; exact tg7_62, rfl⟩
theorem q115_88 : pm_cF 115 88 91 159 0 3 := ⟨_, _, _, _, c115_88, rfl, by rw [k115]; exact tg7_58, rfl⟩
theorem p116_2 : pm_pF 116 2 5 7 5 0 := ⟨_, c116_2, by rw [k116]; exact fd7_28, by decide, by decide +kernel⟩
theorem p116_7 : pm_pF 116 7 10 7 6 0 := ⟨_, c116_7, by rw [k116]; exact fd7_31, by decide, by decide +kernel⟩
theorem p116_12 : pm_pF 116 12 15 7 7 0 := ⟨_, c116_12, by rw [k116]; exact fd7_34, by decide, by decide +kernel⟩
theorem g117_1 : pm_gF 117 1 4 7 4 0 := ⟨_, c117_1, by rw [k117]; exact fd7_24⟩
theorem g118_10 : pm_gF 118 10 13 7 5 0 := ⟨_, c118_10, by rw [k118]; exact fd7_28⟩
theorem g118_21 : pm_gF 118 21 24 7 5 0 := ⟨_, c118_21, by rw [k118]; exact fd7_28⟩
theorem p118_26 : pm_pF 118 26 29 7 5 0 := ⟨_, c118_26, by rw [k118]; exact fd7_28, by decide, by decide +kernel⟩
theorem g118_30 : pm_gF 118 30 33 7 0 2 := ⟨_, c118_30, by rw [k118]; exact fd7_9⟩
theorem q118_35 : pm_cF 118 35 38 160 0 2 := ⟨_, _, _, _, c118_35, rfl, by rw [k118]; exact tg7_83, rfl⟩
theorem tg7_117 : pm_tg 7 117 = some (119, 3, 1, false) := by decide +kernel
theorem q118_49 : pm_cF 118 49 52 119 1 4 := ⟨_, _, _, _, c118_49, rfl, by rw [k118]; exact tg7_117, rfl⟩
theorem g118_57 : pm_gF 118 57 60 7 0 2 := ⟨_, c118_57, by rw [k118]; exact fd7_9⟩
theorem q118_62 : pm_cF 118 62 65 160 0 2 := ⟨_, _, _, _, c118_62, rfl, by rw [k118]; exact tg7_83, rfl⟩
theorem g118_66 : pm_gF 118 66 69 7 1 2 := ⟨_, c118_66, by rw [k118]; exact fd7_15⟩
theorem q118_71 : pm_cF 118 71 74 160 0 2 := ⟨_, _, _, _, c118_71, rfl, by rw [k118]; exact tg7_83, rfl⟩
theorem g118_75 : pm_gF 118 75 78 7 2 2 := ⟨_, c118_75, by rw [k118]; exact fd7_18⟩
theorem q118_80 : pm_cF 118 80 83 160 0 2 := ⟨_, _, _, _, c118_80, rfl, by rw [k118]; exact tg7_83, rfl⟩
theorem tg7_121 : pm_tg 7 121 = some (39, 3, 1, false) := by decide +kernel
theorem q118_83 : pm_cF 118 83 86 39 1 4 := ⟨_, _, _, _, c118_83, rfl, by rw [k118]; exact tg7_121, rfl⟩
theorem g118_91 : pm_gF 118 91 94 7 6 0 := ⟨_, c118_91, by rw [k118]; exact fd7_31⟩
theorem p118_96 : pm_pF 118 96 99 7 6 0 := ⟨_, c118_96, by rw [k118]; exact fd7_31, by decide, by decide +kernel⟩
theorem g118_104 : pm_gF 118 104 107 7 7 0 := ⟨_, c118_104, by rw [k118]; exact fd7_34⟩
theorem p118_109 : pm_pF 118 109 112 7 7 0 := ⟨_, c118_109, by rw [k118]; exact fd7_34, by decide, by decide +kernel⟩
theorem g118_113 : pm_gF 118 113 116 7 3 2 := ⟨_, c118_113, by rw [k118]; exact fd7_21⟩
theorem q118_118 : pm_cF 118 118 121 160 0 2 := ⟨_, _, _, _, c118_118, rfl, by rw [k118]; exact tg7_83, rfl⟩
theorem g119_13 : pm_gF 119 13 16 7 2 2 := ⟨_, c119_13, by rw [k119]; exact fd7_18⟩
theorem q119_17 : pm_cF 119 17 20 160 0 2 := ⟨_, _, _, _, c119_17, rfl, by rw [k119]; exact tg7_83, rfl⟩
theorem g119_24 : pm_gF 119 24 27 7 5 0 := ⟨_, c119_24, by rw [k119]; exact fd7_28⟩
theorem g119_39 : pm_gF 119 39 42 7 3 2 := ⟨_, c119_39, by rw [k119]; exact fd7_21⟩
theorem q119_43 : pm_cF 119 43 46 160 0 2 := ⟨_, _, _, _, c119_43, rfl, by rw [k119]; exact tg7_83, rfl⟩
theorem tg7_127 : pm_tg 7 127 = some (118, 4, 1, false) := by decide +kernel
theorem q119_49 : pm_cF 119 49 52 118 1 5 := ⟨_, _, _, _, c119_49, rfl, by rw [k119]; exact tg7_127, rfl⟩
theorem g120_1 : pm_gF 120 1 4 7 7 0 := ⟨_, c120_1, by rw [k120]; exact fd7_34⟩
theorem g121_1 : pm_gF 121 1 4 7 6 0 := ⟨_, c121_1, by rw [k121]; exact fd7_31⟩
theorem fd8_9 : pm_fd 8 9 = some (8, 0, 2) := by decide +kernel
theorem fd8_15 : pm_fd 8 15 = some (8, 1, 0) := by decide +kernel
theorem p122_15 : pm_pF 122 15 18 8 1 0 := ⟨_, c122_15, by rw [k122]; exact fd8_15, by decide, by decide +kernel⟩
theorem fd8_19 : pm_fd 8 19 = some (8, 2, 0) := by decide +kernel
theorem p122_20 : pm_pF 122 20 23 8 2 0 := ⟨_, c122_20, by rw [k122]; exact fd8_19, by decide, by decide +kernel⟩
theorem fd8_22 : pm_fd 8 22 = some (8, 3, 0) := by decide +kernel
theorem p122_25 : pm_pF 122 25 28 8 3 0 := ⟨_, c122_25, by rw [k122]; exact fd8_22, by decide, by decide +kernel⟩
theorem fd8_25 : pm_fd 8 25 = some (8, 4, 0) := by decide +kernel
theorem p122_30 : pm_pF 122 30 33 8 4 0 := ⟨_, c122_30, by rw [k122]; exact fd8_25, by decide, by decide +kernel⟩
theorem fd8_28 : pm_fd 8 28 = some (8, 5, 0) := by decide +kernel
theorem p122_35 : pm_pF 122 35 38 8 5 0 := ⟨_, c122_35, by rw [k122]; exact fd8_28, by decide, by decide +kernel⟩
theorem fd8_31 : pm_fd 8 31 = some (8, 6, 0) := by decide +kernel
theorem p122_40 : pm_pF 122 40 43 8 6 0 := ⟨_, c122_40, by rw [k122]; exact fd8_31, by decide, by decide +kernel⟩
theorem fd8_34 : pm_fd 8 34 = some (8, 7, 0) := by decide +kernel
theorem p122_45 : pm_pF 122 45 48 8 7 0 := ⟨_, c122_45, by rw [k122]; exact fd8_34, by decide, by decide +kernel⟩
theorem fd8_37 : pm_fd 8 37 = some (8, 8, 0) := by decide +kernel
theorem p122_50 : pm_pF 122 50 53 8 8 0 := ⟨_, c122_50, by rw [k122]; exact fd8_37, by decide, by decide +kernel⟩
theorem g123_1 : pm_gF 123 1 4 8 1 0 := ⟨_, c123_1, by rw [k123]; exact fd8_15⟩
theorem g124_8 : pm_gF 124 8 11 8 1 0 := ⟨_, c124_8, by rw [k124]; exact fd8_15⟩
theorem g124_12 : pm_gF 124 12 15 8 0 2 := ⟨_, c124_12, by rw [k124]; exact fd8_9⟩
theorem g124_20 : pm_gF 124 20 23 8 0 2 := ⟨_, c124_20, by rw [k124]; exact fd8_9⟩
theorem g124_24 : pm_gF 124 24 27 8 1 0 := ⟨_, c124_24, by rw [k124]; exact fd8_15⟩
theorem tg8_40 : pm_tg 8 40 = some (159, 3, 0, true) := by decide +kernel
theorem q124_34 : pm_cF 124 34 37 159 0 3 := ⟨_, _, _, _, c124_34, rfl, by rw [k124]; exact tg8_40, rfl⟩
theorem g124_39 : pm_gF 124 39 42 8 1 0 := ⟨_, c124_39, by rw [k124]; exact fd8_15⟩
theorem p124_44 : pm_pF 124 44 47 8 1 0 := ⟨_, c124_44, by rw [k124]; exact fd8_15, by decide, by decide +kernel⟩
theorem g125_1 : pm_gF 125 1 4 8 8 0 := ⟨_, c125_1, by rw [k125]; exact fd8_37⟩
theorem tg8_44 : pm_tg 8 44 = some (127, 0, 1, false) := by decide +kernel
theorem q126_1 : pm_cF 126 1 4 127 1 1 := ⟨_, _, _, _, c126_1, rfl, by rw [k126]; exact tg8_44, rfl⟩
theorem g126_7 : pm_gF 126 7 10 8 1 0 := ⟨_, c126_7, by rw [k126]; exact fd8_15⟩
theorem tg8_47 : pm_tg 8 47 = some (363, 2, 0, false) := by decide +kernel
theorem q126_10 : pm_cF 126 10 13 363 0 2 := ⟨_, _, _, _, c126_10, rfl, by rw [k126]; exact tg8_47, rfl⟩
theorem p126_13 : pm_pF 126 13 16 8 2 0 := ⟨_, c126_13, by rw [k126]; exact fd8_19, by decide, by decide +kernel⟩
theorem p126_18 : pm_pF 126 18 21 8 5 0 := ⟨_, c126_18, by rw [k126]; exact fd8_28, by decide, by decide +kernel⟩
theorem tg8_53 : pm_tg 8 53 = some (128, 0, 1, false) := by decide +kernel
theorem q126_22 : pm_cF 126 22 25 128 1 1 := ⟨_, _, _, _, c126_22, rfl, by rw [k126]; exact tg8_53, rfl⟩
theorem p127_2 : pm_pF 127 2 5 8 7 0 := ⟨_, c127_2, by rw [k127]; exact fd8_34, by decide, by decide +kernel⟩
theorem p127_7 : pm_pF 127 7 10 8 8 0 := ⟨_, c127_7, by rw [k127]; exact fd8_37, by decide, by decide +kernel⟩
theorem g128_2 : pm_gF 128 2 5 8 5 0 := ⟨_, c128_2, by rw [k128]; exact fd8_28⟩
theorem p128_5 : pm_pF 128 5 8 8 4 0 := ⟨_, c128_5, by rw [k128]; exact fd8_25, by decide, by decide +kernel⟩
theorem g128_19 : pm_gF 128 19 22 8 4 0 := ⟨_, c128_19, by rw [k128]; exact fd8_25⟩
theorem tg8_56 : pm_tg 8 56 = some (129, 1, 1, false) := by decide +kernel
theorem q128_22 : pm_cF 128 22 25 129 1 2 := ⟨_, _, _, _, c128_22, rfl, by rw [k128]; exact tg8_56, rfl⟩
theorem g128_32 : pm_gF 128 32 35 8 4 0 := ⟨_, c128_32, by rw [k128]; exact fd8_25⟩
theorem p128_37 : pm_pF 128 37 40 8 4 0 := ⟨_, c128_37, by rw [k128]; exact fd8_25, by decide, by decide +kernel⟩
theorem g128_49 : pm_gF 128 49 52 8 4 0 := ⟨_, c128_49, by rw [k128]; exact fd8_25⟩
theorem tg8_60 : pm_tg 8 60 = some (130, 1, 1, false) := by decide +kernel
theorem q128_52 : pm_cF 128 52 55 130 1 2 := ⟨_, _, _, _, c128_52, rfl, by rw [k128]; exact tg8_60, rfl⟩
theorem p128_55 : pm_pF 128 55 58 8 3 0 := ⟨_, c128_55, by rw [k128]; exact fd8_22, by decide, by decide +kernel⟩
theorem g128_60 : pm_gF 128 60 63 8 3 0 := ⟨_, c128_60, by rw [k128]; exact fd8_22⟩
theorem g128_68 : pm_gF 128 68 71 8 4 0 := ⟨_, c128_68, by rw [k128]; exact fd8_25⟩
theorem g128_77 : pm_gF 128 77 80 8 4 0 := ⟨_, c128_77, by rw [k128]; exact fd8_25⟩
theorem p128_80 : pm_pF 128 80 83 8 5 0 := ⟨_, c128_80, by rw [k128]; exact fd8_28, by decide, by decide +kernel⟩
theorem p128_85 : pm_pF 128 85 88 8 6 0 := ⟨_, c128_85, by rw [k128]; exact fd8_31, by decide, by decide +kernel⟩
theorem g128_89 : pm_gF 128 89 92 8 3 0 := ⟨_, c128_89, by rw [k128]; exact fd8_22⟩
theorem g128_97 : pm_gF 128 97 100 8 3 0 := ⟨_, c128_97, by rw [k128]; exact fd8_22⟩
theorem g128_125 : pm_gF 128 125 128 8 5 0 := ⟨_, c128_125, by rw [k128]; exact fd8_28⟩
theorem q128_128 : pm_cF 128 128 131 130 1 2 := ⟨_, _, _, _, c128_128, rfl, by rw [k128]; exact tg8_60, rfl⟩
theorem g128_132 : pm_gF 128 132 135 8 3 0 := ⟨_, c128_132, by rw [k128]; exact fd8_22⟩
theorem g128_139 : pm_gF 128 139 142 8 3 0 := ⟨_, c128_139, by rw [k128]; exact fd8_22⟩
theorem ct8_63 : pm_ct 8 63 = some (.int 1000000) := by decide +kernel
theorem v128_147 : pm_kF 128 147 149 (.int 1000000) := ⟨_, _, c128_147, Or.inl rfl, by rw [k128]; exact ct8_63⟩
theorem g128_150 : pm_gF 128 150 153 8 6 0 := ⟨_, c128_150, by rw [k128]; exact fd8_31⟩
theorem g128_158 : pm_gF 128 158 161 8 5 0 := ⟨_, c128_158, by rw [k128]; exact fd8_28⟩
theorem q128_161 : pm_cF 128 161 164 129 1 2 := ⟨_, _, _, _, c128_161, rfl, by rw [k128]; exact tg8_56, rfl⟩
theorem q128_168 : pm_cF 128 168 171 363 0 2 := ⟨_, _, _, _, c128_168, rfl, by rw [k128]; exact tg8_47, rfl⟩
theorem p128_171 : pm_pF 128 171 174 8 6 0 := ⟨_, c128_171, by rw [k128]; exact fd8_31, by decide, by decide +kernel⟩
theorem g128_176 : pm_gF 128 176 179 8 5 0 := ⟨_, c128_176, by rw [k128]; exact fd8_28⟩
theorem p128_181 : pm_pF 128 181 184 8 5 0 := ⟨_, c128_181, by rw [k128]; exact fd8_28, by decide, by decide +kernel⟩
theorem g129_6 : pm_gF 129 6 9 8 2 0 := ⟨_, c129_6, by rw [k129]; exact fd8_19⟩
theorem g129_14 : pm_gF 129 14 17 8 0 2 := ⟨_, c129_14, by rw [k129]; exact fd8_9⟩
theorem g129_22 : pm_gF 129 22 25 8 0 2 := ⟨_, c129_22, by rw [k129]; exact fd8_9⟩
theorem g130_6 : pm_gF 130 6 9 8 2 0 := ⟨_, c130_6, by rw [k130]; exact fd8_19⟩
theorem g130_14 : pm_gF 130 14 17 8 0 2 := ⟨_, c130_14, by rw [k130]; exact fd8_9⟩
theorem g130_24 : pm_gF 130 24 27 8 0 2 := ⟨_, c130_24, by rw [k130]; exact fd8_9⟩
theorem g131_1 : pm_gF 131 1 4 8 3 0 := ⟨_, c131_1, by rw [k131]; exact fd8_22⟩
theorem g131_9 : pm_gF 131 9 12 8 3 0 := ⟨_, c131_9, by rw [k131]; exact fd8_22⟩
theorem g132_1 : pm_gF 132 1 4 8 3 0 := ⟨_, c132_1, by rw [k132]; exact fd8_22⟩
theorem g132_9 : pm_gF 132 9 12 8 5 0 := ⟨_, c132_9, by rw [k132]; exact fd8_28⟩
theorem g132_13 : pm_gF 132 13 16 8 4 0 := ⟨_, c132_13, by rw [k132]; exact fd8_25⟩
theorem tg8_64 : pm_tg 8 64 = some (366, 0, 1, false) := by decide +kernel
theorem q132_18 : pm_cF 132 18 21 366 1 1 := ⟨_, _, _, _, c132_18, rfl, by rw [k132]; exact tg8_64, rfl⟩
theorem q132_30 : pm_cF 132 30 33 366 1 1 := ⟨_, _, _, _, c132_30, rfl, by rw [k132]; exact tg8_64, rfl⟩
theorem g132_38 : pm_gF 132 38 41 8 4 0 := ⟨_, c132_38, by rw [k132]; exact fd8_25⟩
theorem q132_43 : pm_cF 132 43 46 129 1 2 := ⟨_, _, _, _, c132_43, rfl, by rw [k132]; exact tg8_56, rfl⟩
theorem tg8_69 : pm_tg 8 69 = some (368, 1, 1, false) := by decide +kernel
theorem q132_48 : pm_cF 132 48 51 368 1 2 := ⟨_, _, _, _, c132_48, rfl, by rw [k132]; exact tg8_69, rfl⟩
theorem g133_1 : pm_gF 133 1 4 8 7 0 := ⟨_, c133_1, by rw [k133]; exact fd8_34⟩
theorem p133_9 : pm_pF 133 9 12 8 7 0 := ⟨_, c133_9, by rw [k133]; exact fd8_34, by decide, by decide +kernel⟩
theorem g133_14 : pm_gF 133 14 17 8 4 0 := ⟨_, c133_14, by rw [k133]; exact fd8_25⟩
theorem p133_17 : pm_pF 133 17 20 8 8 0 := ⟨_, c133_17, by rw [k133]; exact fd8_37, by decide, by decide +kernel⟩
theorem p133_22 : pm_pF 133 22 25 8 3 0 := ⟨_, c133_22, by rw [k133]; exact fd8_22, by decide, by decide +kernel⟩
theorem g134_1 : pm_gF 134 1 4 8 3 0 := ⟨_, c134_1, by rw [k134]; exact fd8_22⟩
theorem tg8_77 : pm_tg 8 77 = some (133, 1, 1, false) := by decide +kernel
theorem q134_10 : pm_cF 134 10 13 133 1 2 := ⟨_, _, _, _, c134_10, rfl, by rw [k134]; exact tg8_77, rfl⟩
theorem g134_16 : pm_gF 134 16 19 8 6 0 := ⟨_, c134_16, by rw [k134]; exact fd8_31⟩
theorem g134_24 : pm_gF 134 24 27 8 6 0 := ⟨_, c134_24, by rw [k134]; exact fd8_31⟩
theorem q134_33 : pm_cF 134 33 36 133 1 2 := ⟨_, _, _, _, c134_33, rfl, by rw [k134]; exact tg8_77, rfl⟩
theorem g134_39 : pm_gF 134 39 42 8 6 0 := ⟨_, c134_39, by rw [k134]; exact fd8_31⟩
theorem q134_44 : pm_cF 134 44 47 128 1 1 := ⟨_, _, _, _, c134_44, rfl, by rw [k134]; exact tg8_53, rfl⟩
theorem tg8_73 : pm_tg 8 73 = some (136, 1, 1, false) := by decide +kernel
theorem q135_2 : pm_cF 135 2 5 136 1 2 := ⟨_, _, _, _, c135_2, rfl, by rw [k135]; exact tg8_73, rfl⟩
theorem q135_9 : pm_cF 135 9 12 128 1 1 := ⟨_, _, _, _, c135_9, rfl, by rw [k135]; exact tg8_53, rfl⟩
theorem q135_17 : pm_cF 135 17 20 133 1 2 := ⟨_, _, _, _, c135_17, rfl, by rw [k135]; exact tg8_77, rfl⟩
theorem g136_1 : pm_gF 136 1 4 8 3 0 := ⟨_, c136_1, by rw [k136]; exact fd8_22⟩
theorem g136_10 : pm_gF 136 10 13 8 4 0 := ⟨_, c136_10, by rw [k136]; exact fd8_25⟩
theorem q136_13 : pm_cF 136 13 16 129 1 2 := ⟨_, _, _, _, c136_13, rfl, by rw [k136]; exact tg8_56, rfl⟩
theorem p137_2 : pm_pF 137 2 5 8 1 0 := ⟨_, c137_2, by rw [k137]; exact fd8_15, by decide, by decide +kernel⟩
theorem g138_1 : pm_gF 138 1 4 8 7 0 := ⟨_, c138_1, by rw [k138]; exact fd8_34⟩
theorem g139_1 : pm_gF 139 1 4 8 7 0 := ⟨_, c139_1, by rw [k139]; exact fd8_34⟩
theorem g140_1 : pm_gF 140 1 4 8 3 0 := ⟨_, c140_1, by rw [k140]; exact fd8_22⟩
theorem g141_1 : pm_gF 141 1 4 8 6 0 := ⟨_, c141_1, by rw [k141]; exact fd8_31⟩
theorem fd9_9 : pm_fd 9 9 = some (9, 0, 2) := by decide +kernel
theorem fd9_15 : pm_fd 9 15 = some (9, 1, 0) := by decide +kernel
theorem p142_15 : pm_pF 142 15 18 9 1 0 := ⟨_, c142_15, by rw [k142]; exact fd9_15, by decide, by decide +kernel⟩
theorem fd9_19 : pm_fd 9 19 = some (9, 2, 0) := by decide +kernel
theorem p142_20 : pm_pF 142 20 23 9 2 0 := ⟨_, c142_20, by rw [k142]; exact fd9_19, by decide, by decide +kernel⟩
theorem fd9_22 : pm_fd 9 22 = some (9, 3, 0) := by decide +kernel
theorem p142_25 : pm_pF 142 25 28 9 3 0 := ⟨_, c142_25, by rw [k142]; exact fd9_22, by decide, by decide +kernel⟩
theorem fd9_25 : pm_fd 9 25 = some (9, 4, 0) := by decide +kernel
theorem p142_30 : pm_pF 142 30 33 9 4 0 := ⟨_, c142_30, by rw [k142]; exact fd9_25, by decide, by decide +kernel⟩
theorem fd9_28 : pm_fd 9 28 = some (9, 5, 0) := by decide +kernel
theorem p142_35 : pm_pF 142 35 38 9 5 0 := ⟨_, c142_35, by rw [k142]; exact fd9_28, by decide, by decide +kernel⟩
theorem fd9_31 : pm_fd 9 31 = some (9, 6, 0) := by decide +kernel
theorem p142_40 : pm_pF 142 40 43 9 6 0 := ⟨_, c142_40, by rw [k142]; exact fd9_31, by decide, by decide +kernel⟩
theorem tg9_34 : pm_tg 9 34 = some (144, 0, 1, false) := by decide +kernel
theorem q143_1 : pm_cF 143 1 4 144 1 1 := ⟨_, _, _, _, c143_1, rfl, by rw [k143]; exact tg9_34, rfl⟩
theorem tg9_37 : pm_tg 9 37 = some (32, 1, 1, false) := by decide +kernel
theorem q143_6 : pm_cF 143 6 9 32 1 2 := ⟨_, _, _, _, c143_6, rfl, by rw [k143]; exact tg9_37, rfl⟩
theorem tg9_43 : pm_tg 9 43 = some (59, 2, 1, false) := by decide +kernel
theorem q143_34 : pm_cF 143 34 37 59 1 3 := ⟨_, _, _, _, c143_34, rfl, by rw [k143]; exact tg9_43, rfl⟩
theorem tg9_47 : pm_tg 9 47 = some (14, 1, 1, false) := by decide +kernel
theorem q143_42 : pm_cF 143 42 45 14 1 2 := ⟨_, _, _, _, c143_42, rfl, by rw [k143]; exact tg9_47, rfl⟩
theorem tg9_53 : pm_tg 9 53 = some (145, 2, 1, false) := by decide +kernel
theorem q143_59 : pm_cF 143 59 62 145 1 3 := ⟨_, _, _, _, c143_59, rfl, by rw [k143]; exact tg9_53, rfl⟩
theorem g144_4 : pm_gF 144 4 7 9 0 2 := ⟨_, c144_4, by rw [k144]; exact fd9_9⟩
theorem g144_12 : pm_gF 144 12 15 9 0 2 := ⟨_, c144_12, by rw [k144]; exact fd9_9⟩
theorem p144_26 : pm_pF 144 26 29 9 1 0 := ⟨_, c144_26, by rw [k144]; exact fd9_15, by decide, by decide +kernel⟩
theorem p144_31 : pm_pF 144 31 34 9 2 0 := ⟨_, c144_31, by rw [k144]; exact fd9_19, by decide, by decide +kernel⟩
theorem p144_36 : pm_pF 144 36 39 9 3 0 := ⟨_, c144_36, by rw [k144]; exact fd9_22, by decide, by decide +kernel⟩
theorem p144_41 : pm_pF 144 41 44 9 4 0 := ⟨_, c144_41, by rw [k144]; exact fd9_25, by decide, by decide +kernel⟩
theorem g145_1 : pm_gF 145 1 4 9 1 0 := ⟨_, c145_1, by rw [k145]; exact fd9_15⟩
theorem p145_9 : pm_pF 145 9 12 9 2 0 := ⟨_, c145_9, by rw [k145]; exact fd9_19, by decide, by decide +kernel⟩
theorem p145_14 : pm_pF 145 14 17 9 3 0 := ⟨_, c145_14, by rw [k145]; exact fd9_22, by decide, by decide +kernel⟩
theorem p145_19 : pm_pF 145 19 22 9 4 0 := ⟨_, c145_19, by rw [k145]; exact fd9_25, by decide, by decide +kernel⟩
theorem g145_24 : pm_gF 145 24 27 9 3 0 := ⟨_, c145_24, by rw [k145]; exact fd9_22⟩
theorem tg9_57 : pm_tg 9 57 = some (363, 2, 0, false) := by decide +kernel
theorem q145_28 : pm_cF 145 28 31 363 0 2 := ⟨_, _, _, _, c145_28, rfl, by rw [k145]; exact tg9_57, rfl⟩
theorem p145_31 : pm_pF 145 31 34 9 3 0 := ⟨_, c145_31, by rw [k145]; exact fd9_22, by decide, by decide +kernel⟩
theorem g145_36 : pm_gF 145 36 39 9 4 0 := ⟨_, c145_36, by rw [k145]; exact fd9_25⟩
theorem tg9_62 : pm_tg 9 62 = some (362, 2, 0, false) := by decide +kernel
theorem q145_40 : pm_cF 145 40 43 362 0 2 := ⟨_, _, _, _, c145_40, rfl, by rw [k145]; exact tg9_62, rfl⟩
theorem p145_43 : pm_pF 145 43 46 9 4 0 := ⟨_, c145_43, by rw [k145]; exact fd9_25, by decide, by decide +kernel⟩
theorem g145_47 : pm_gF 145 47 50 9 0 2 := ⟨_, c145_47, by rw [k145]; exact fd9_9⟩
theorem g145_52 : pm_gF 145 52 55 9 0 2 := ⟨_, c145_52, by rw [k145]; exact fd9_9⟩
theorem tg9_65 : pm_tg 9 65 = some (160, 2, 0, true) := by decide +kernel
theorem q145_56 : pm_cF 145 56 59 160 0 2 := ⟨_, _, _, _, c145_56, rfl, by rw [k145]; exact tg9_65, rfl⟩
theorem tg9_69 : pm_tg 9 69 = some (159, 3, 0, true) := by decide +kernel
theorem q145_61 : pm_cF 145 61 64 159 0 3 := ⟨_, _, _, _, c145_61, rfl, by rw [k145]; exact tg9_69, rfl⟩
theorem g145_66 : pm_gF 145 66 69 9 1 0 := ⟨_, c145_66, by rw [k145]; exact fd9_15⟩
theorem p145_71 : pm_pF 145 71 74 9 1 0 := ⟨_, c145_71, by rw [k145]; exact fd9_15, by decide, by decide +kernel⟩
theorem g146_1 : pm_gF 146 1 4 9 1 0 := ⟨_, c146_1, by rw [k146]; exact fd9_15⟩
theorem g147_1 : pm_gF 147 1 4 9 2 0 := ⟨_, c147_1, by rw [k147]; exact fd9_19⟩
theorem g148_1 : pm_gF 148 1 4 9 3 0 := ⟨_, c148_1, by rw [k148]; exact fd9_22⟩
theorem g149_1 : pm_gF 149 1 4 9 4 0 := ⟨_, c149_1, by rw [k149]; exact fd9_25⟩
theorem g150_6 : pm_gF 150 6 9 9 1 0 := ⟨_, c150_6, by rw [k150]; exact fd9_15⟩
theorem p150_9 : pm_pF 150 9 12 9 6 0 := ⟨_, c150_9, by rw [k150]; exact fd9_31, by decide, by decide +kernel⟩
theorem g150_24 : pm_gF 150 24 27 9 1 0 := ⟨_, c150_24, by rw [k150]; exact fd9_15⟩
theorem q150_29 : pm_cF 150 29 32 362 0 2 := ⟨_, _, _, _, c150_29, rfl, by rw [k150]; exact tg9_62, rfl⟩
theorem g150_45 : pm_gF 150 45 48 9 6 0 := ⟨_, c150_45, by rw [k150]; exact fd9_31⟩
theorem tg9_73 : pm_tg 9 73 = some (12, 1, 1, false) := by decide +kernel
theorem q150_54 : pm_cF 150 54 57 12 1 2 := ⟨_, _, _, _, c150_54, rfl, by rw [k150]; exact tg9_73, rfl⟩
theorem p150_63 : pm_pF 150 63 66 9 5 0 := ⟨_, c150_63, by rw [k150]; exact fd9_28, by decide, by decide +kernel⟩
theorem p150_69 : pm_pF 150 69 72 9 6 0 := ⟨_, c150_69, by rw [k150]; exact fd9_31, by decide, by decide +kernel⟩
theorem g150_74 : pm_gF 150 74 77 9 0 2 := ⟨_, c150_74, by rw [k150]; exact fd9_9⟩
theorem q150_79 : pm_cF 150 79 82 160 0 2 := ⟨_, _, _, _, c150_79, rfl, by rw [k150]; exact tg9_65, rfl⟩
theorem g150_86 : pm_gF 150 86 89 9 0 2 := ⟨_, c150_86, by rw [k150]; exact fd9_9⟩
theorem q150_91 : pm_cF 150 91 94 160 0 2 := ⟨_, _, _, _, c150_91, rfl, by rw [k150]; exact tg9_65, rfl⟩
theorem q150_94 : pm_cF 150 94 97 362 0 2 := ⟨_, _, _, _, c150_94, rfl, by rw [k150]; exact tg9_62, rfl⟩
theorem g151_1 : pm_gF 151 1 4 9 5 0 := ⟨_, c151_1, by rw [k151]; exact fd9_28⟩
theorem g152_1 : pm_gF 152 1 4 9 6 0 := ⟨_, c152_1, by rw [k152]; exact fd9_31⟩
theorem fd10_9 : pm_fd 10 9 = some (10, 0, 0) := by decide +kernel
theorem p153_6 : pm_pF 153 6 9 10 0 0 := ⟨_, c153_6, by rw [k153]; exact fd10_9, by decide, by decide +kernel⟩
theorem fd10_15 : pm_fd 10 15 = some (10, 1, 0) := by decide +kernel
theorem p153_11 : pm_pF 153 11 14 10 1 0 := ⟨_, c153_11, by rw [k153]; exact fd10_15, by decide, by decide +kernel⟩
theorem fd10_18 : pm_fd 10 18 = some (10, 2, 0) := by decide +kernel
theorem p153_16 : pm_pF 153 16 19 10 2 0 := ⟨_, c153_16, by rw [k153]; exact fd10_18, by decide, by decide +kernel⟩
theorem tg10_21 : pm_tg 10 21 = some (36, 1, 1, false) := by decide +kernel
theorem q154_2 : pm_cF 154 2 5 36 1 2 := ⟨_, _, _, _, c154_2, rfl, by rw [k154]; exact tg10_21, rfl⟩
theorem p154_12 : pm_pF 154 12 15 10 0 0 := ⟨_, c154_12, by rw [k154]; exact fd10_9, by decide, by decide +kernel⟩
theorem p154_17 : pm_pF 154 17 20 10 2 0 := ⟨_, c154_17, by rw [k154]; exact fd10_18, by decide, by decide +kernel⟩
theorem tg10_27 : pm_tg 10 27 = some (28, 0, 1, false) := by decide +kernel
theorem q154_22 : pm_cF 154 22 25 28 1 1 := ⟨_, _, _, _, c154_22, rfl, by rw [k154]; exact tg10_27, rfl⟩
theorem tg10_31 : pm_tg 10 31 = some (108, 0, 1, false) := by decide +kernel
theorem q154_25 : pm_cF 154 25 28 108 1 1 := ⟨_, _, _, _, c154_25, rfl, by rw [k154]; exact tg10_31, rfl⟩
theorem p154_28 : pm_pF 154 28 31 10 1 0 := ⟨_, c154_28, by rw [k154]; exact fd10_15, by decide, by decide +kernel⟩
theorem ct10_37 : pm_ct 10 37 = some (.int 1103515245) := by decide +kernel
theorem v154_43 : pm_kF 154 43 45 (.int 1103515245) := ⟨_, _, c154_43, Or.inl rfl, by rw [k154]; exact ct10_37⟩
theorem g154_66 : pm_gF 154 66 69 10 2 0 := ⟨_, c154_66, by rw [k154]; exact fd10_18⟩
theorem p154_71 : pm_pF 154 71 74 10 2 0 := ⟨_, c154_71, by rw [k154]; exact fd10_18, by decide, by decide +kernel⟩
theorem g154_77 : pm_gF 154 77 80 10 1 0 := ⟨_, c154_77, by rw [k154]; exact fd10_15⟩
theorem tg10_38 : pm_tg 10 38 = some (362, 2, 0, false) := by decide +kernel
theorem q154_83 : pm_cF 154 83 86 362 0 2 := ⟨_, _, _, _, c154_83, rfl, by rw [k154]; exact tg10_38, rfl⟩
theorem p154_86 : pm_pF 154 86 89 10 1 0 := ⟨_, c154_86, by rw [k154]; exact fd10_15, by decide, by decide +kernel⟩
theorem g154_91 : pm_gF 154 91 94 10 0 0 := ⟨_, c154_91, by rw [k154]; exact fd10_9⟩
theorem g154_98 : pm_gF 154 98 101 10 1 0 := ⟨_, c154_98, by rw [k154]; exact fd10_15⟩
theorem q154_102 : pm_cF 154 102 105 362 0 2 := ⟨_, _, _, _, c154_102, rfl, by rw [k154]; exact tg10_38, rfl⟩
theorem p154_106 : pm_pF 154 106 109 10 0 0 := ⟨_, c154_106, by rw [k154]; exact fd10_9, by decide, by decide +kernel⟩
theorem g154_112 : pm_gF 154 112 115 10 1 0 := ⟨_, c154_112, by rw [k154]; exact fd10_15⟩
theorem q154_118 : pm_cF 154 118 121 362 0 2 := ⟨_, _, _, _, c154_118, rfl, by rw [k154]; exact tg10_38, rfl⟩
theorem p154_121 : pm_pF 154 121 124 10 1 0 := ⟨_, c154_121, by rw [k154]; exact fd10_15, by decide, by decide +kernel⟩
theorem g155_1 : pm_gF 155 1 4 10 0 0 := ⟨_, c155_1, by rw [k155]; exact fd10_9⟩
theorem g156_1 : pm_gF 156 1 4 10 1 0 := ⟨_, c156_1, by rw [k156]; exact fd10_15⟩
theorem g157_1 : pm_gF 157 1 4 10 2 0 := ⟨_, c157_1, by rw [k157]; exact fd10_18⟩
theorem tg11_9 : pm_tg 11 9 = some (122, 0, 2, true) := by decide +kernel
theorem q158_9 : pm_cF 158 9 12 122 2 1 := ⟨_, _, _, _, c158_9, rfl, by rw [k158]; exact tg11_9, rfl⟩
theorem fd11_10 : pm_fd 11 10 = some (11, 0, 2) := by decide +kernel
theorem tg11_18 : pm_tg 11 18 = some (27, 0, 2, false) := by decide +kernel
theorem q158_20 : pm_cF 158 20 23 27 2 1 := ⟨_, _, _, _, c158_20, rfl, by rw [k158]; exact tg11_18, rfl⟩
theorem fd11_19 : pm_fd 11 19 = some (11, 1, 2) := by decide +kernel
theorem tg11_25 : pm_tg 11 25 = some (0, 0, 2, true) := by decide +kernel
theorem q158_31 : pm_cF 158 31 34 0 2 1 := ⟨_, _, _, _, c158_31, rfl, by rw [k158]; exact tg11_25, rfl⟩
theorem fd11_26 : pm_fd 11 26 = some (11, 2, 2) := by decide +kernel
theorem tg11_32 : pm_tg 11 32 = some (15, 0, 2, false) := by decide +kernel
theorem q158_42 : pm_cF 158 42 45 15 2 1 := ⟨_, _, _, _, c158_42, rfl, by rw [k158]; exact tg11_32, rfl⟩
theorem fd11_33 : pm_fd 11 33 = some (11, 3, 2) := by decide +kernel
theorem tg11_39 : pm_tg 11 39 = some (110, 0, 2, true) := by decide +kernel
theorem q158_53 : pm_cF 158 53 56 110 2 1 := ⟨_, _, _, _, c158_53, rfl, by rw [k158]; exact tg11_39, rfl⟩
theorem fd11_40 : pm_fd 11 40 = some (11, 4, 2) := by decide +kernel
theorem tg11_46 : pm_tg 11 46 = some (142, 0, 2, true) := by decide +kernel
theorem q158_64 : pm_cF 158 64 67 142 2 1 := ⟨_, _, _, _, c158_64, rfl, by rw [k158]; exact tg11_46, rfl⟩
theorem fd11_47 : pm_fd 11 47 = some (11, 5, 2) := by decide +kernel
theorem tg11_53 : pm_tg 11 53 = some (62, 0, 2, true) := by decide +kernel
theorem q158_75 : pm_cF 158 75 78 62 2 1 := ⟨_, _, _, _, c158_75, rfl, by rw [k158]; exact tg11_53, rfl⟩
theorem fd11_54 : pm_fd 11 54 = some (11, 6, 2) := by decide +kernel
theorem tg11_60 : pm_tg 11 60 = some (153, 0, 2, true) := by decide +kernel
theorem q158_86 : pm_cF 158 86 89 153 2 1 := ⟨_, _, _, _, c158_86, rfl, by rw [k158]; exact tg11_60, rfl⟩
theorem fd11_61 : pm_fd 11 61 = some (11, 7, 2) := by decide +kernel
theorem tg11_67 : pm_tg 11 67 = some (78, 0, 2, true) := by decide +kernel
theorem q158_97 : pm_cF 158 97 100 78 2 1 := ⟨_, _, _, _, c158_97, rfl, by rw [k158]; exact tg11_67, rfl⟩
theorem fd11_68 : pm_fd 11 68 = some (11, 8, 2) := by decide +kernel
theorem p158_100 : pm_pF 158 100 103 11 8 2 := ⟨_, c158_100, by rw [k158]; exact fd11_68, by decide, by decide +kernel⟩
theorem tg11_74 : pm_tg 11 74 = some (8, 0, 2, true) := by decide +kernel
theorem q158_108 : pm_cF 158 108 111 8 2 1 := ⟨_, _, _, _, c158_108, rfl, by rw [k158]; exact tg11_74, rfl⟩
theorem fd11_75 : pm_fd 11 75 = some (11, 9, 2) := by decide +kernel
theorem p158_111 : pm_pF 158 111 114 11 9 2 := ⟨_, c158_111, by rw [k158]; exact fd11_75, by decide, by decide +kernel⟩
theorem q158_119 : pm_cF 158 119 122 8 2 1 := ⟨_, _, _, _, c158_119, rfl, by rw [k158]; exact tg11_74, rfl⟩
theorem fd11_79 : pm_fd 11 79 = some (11, 10, 2) := by decide +kernel
theorem p158_122 : pm_pF 158 122 125 11 10 2 := ⟨_, c158_122, by rw [k158]; exact fd11_79, by decide, by decide +kernel⟩
theorem fd11_82 : pm_fd 11 82 = some (11, 11, 0) := by decide +kernel
theorem p158_127 : pm_pF 158 127 130 11 11 0 := ⟨_, c158_127, by rw [k158]; exact fd11_82, by decide, by decide +kernel⟩
theorem fd11_86 : pm_fd 11 86 = some (11, 12, 0) := by decide +kernel
theorem p158_132 : pm_pF 158 132 135 11 12 0 := ⟨_, c158_132, by rw [k158]; exact fd11_86, by decide, by decide +kernel⟩
theorem fd11_89 : pm_fd 11 89 = some (11, 13, 0) := by decide +kernel
theorem p158_137 : pm_pF 158 137 140 11 13 0 := ⟨_, c158_137, by rw [k158]; exact fd11_89, by decide, by decide +kernel⟩
theorem g161_1 : pm_gF 161 1 4 11 0 2 := ⟨_, c161_1, by rw [k161]; exact fd11_10⟩
theorem tg11_92 : pm_tg 11 92 = some (123, 0, 1, false) := by decide +kernel
theorem q161_4 : pm_cF 161 4 7 123 1 1 := ⟨_, _, _, _, c161_4, rfl, by rw [k161]; exact tg11_92, rfl⟩
theorem g161_19 : pm_gF 161 19 22 11 0 2 := ⟨_, c161_19, by rw [k161]; exact fd11_10⟩
theorem tg11_96 : pm_tg 11 96 = some (124, 1, 1, false) := by decide +kernel
theorem q161_23 : pm_cF 161 23 26 124 1 2 := ⟨_, _, _, _, c161_23, rfl, by rw [k161]; exact tg11_96, rfl⟩
theorem g161_27 : pm_gF 161 27 30 11 0 2 := ⟨_, c161_27, by rw [k161]; exact fd11_10⟩
theorem q161_31 : pm_cF 161 31 34 124 1 2 := ⟨_, _, _, _, c161_31, rfl, by rw [k161]; exact tg11_96, rfl⟩
theorem g161_35 : pm_gF 161 35 38 11 0 2 := ⟨_, c161_35, by rw [k161]; exact fd11_10⟩
theorem q161_39 : pm_cF 161 39 42 124 1 2 := ⟨_, _, _, _, c161_39, rfl, by rw [k161]; exact tg11_96, rfl⟩
theorem g161_43 : pm_gF 161 43 46 11 0 2 := ⟨_, c161_43, by rw [k161]; exact fd11_10⟩
theorem q161_48 : pm_cF 161 48 51 124 1 2 := ⟨_, _, _, _, c161_48, rfl, by rw [k161]; exact tg11_96, rfl⟩
theorem g161_52 : pm_gF 161 52 55 11 0 2 := ⟨_, c161_52, by rw [k161]; exact fd11_10⟩
theorem q161_57 : pm_cF 161 57 60 124 1 2 := ⟨_, _, _, _, c161_57, rfl, by rw [k161]; exact tg11_96, rfl⟩
theorem g161_61 : pm_gF 161 61 64 11 0 2 := ⟨_, c161_61, by rw [k161]; exact fd11_10⟩
theorem q161_64 : pm_cF 161 64 67 123 1 1 := ⟨_, _, _, _, c161_64, rfl, by rw [k161]; exact tg11_92, rfl⟩
theorem g162_1 : pm_gF 162 1 4 11 0 2 := ⟨_, c162_1, by rw [k162]; exact fd11_10⟩
theorem tg11_181 : pm_tg 11 181 = some (125, 0, 1, false) := by decide +kernel
theorem q162_4 : pm_cF 162 4 7 125 1 1 := ⟨_, _, _, _, c162_4, rfl, by rw [k162]; exact tg11_181, rfl⟩
theorem g163_1 : pm_gF 163 1 4 11 2 2 := ⟨_, c163_1, by rw [k163]; exact fd11_26⟩
theorem tg11_147 : pm_tg 11 147 = some (1, 0, 1, false) := by decide +kernel
theorem q163_4 : pm_cF 163 4 7 1 1 1 := ⟨_, _, _, _, c163_4, rfl, by rw [k163]; exact tg11_147, rfl⟩
theorem g163_13 : pm_gF 163 13 16 11 2 2 := ⟨_, c163_13, by rw [k163]; exact fd11_26⟩
theorem g163_17 : pm_gF 163 17 20 11 1 2 := ⟨_, c163_17, by rw [k163]; exact fd11_19⟩
theorem tg11_156 : pm_tg 11 156 = some (28, 0, 1, false) := by decide +kernel
theorem q163_20 : pm_cF 163 20 23 28 1 1 := ⟨_, _, _, _, c163_20, rfl, by rw [k163]; exact tg11_156, rfl⟩
theorem tg11_184 : pm_tg 11 184 = some (2, 1, 1, false) := by decide +kernel
theorem q163_23 : pm_cF 163 23 26 2 1 2 := ⟨_, _, _, _, c163_23, rfl, by rw [k163]; exact tg11_184, rfl⟩
theorem p163_28 : pm_pF 163 28 31 11 11 0 := ⟨_, c163_28, by rw [k163]; exact fd11_82, by decide, by decide +kernel⟩
theorem g163_32 : pm_gF 163 32 35 11 2 2 := ⟨_, c163_32, by rw [k163]; exact fd11_26⟩
theorem q163_35 : pm_cF 163 35 38 1 1 1 := ⟨_, _, _, _, c163_35, rfl, by rw [k163]; exact tg11_147, rfl⟩
theorem tg11_293 : pm_tg 11 293 = some (363, 2, 0, false) := by decide +kernel
theorem q164_8 : pm_cF 164 8 11 363 0 2 := ⟨_, _, _, _, c164_8, rfl, by rw [k164]; exact tg11_293, rfl⟩
theorem g165_1 : pm_gF 165 1 4 11 1 2 := ⟨_, c165_1, by rw [k165]; exact fd11_19⟩
theorem tg11_246 : pm_tg 11 246 = some (29, 0, 1, false) := by decide +kernel
theorem q165_4 : pm_cF 165 4 7 29 1 1 := ⟨_, _, _, _, c165_4, rfl, by rw [k165]; exact tg11_246, rfl⟩
theorem g166_1 : pm_gF 166 1 4 11 1 2 := ⟨_, c166_1, by rw [k166]; exact fd11_19⟩
theorem tg11_280 : pm_tg 11 280 = some (34, 0, 1, false) := by decide +kernel
theorem q166_4 : pm_cF 166 4 7 34 1 1 := ⟨_, _, _, _, c166_4, rfl, by rw [k166]; exact tg11_280, rfl⟩
theorem g167_1 : pm_gF 167 1 4 11 1 2 := ⟨_, c167_1, by rw [k167]; exact fd11_19⟩
theorem tg11_198 : pm_tg 11 198 = some (36, 1, 1, false) := by decide +kernel
theorem q167_5 : pm_cF 167 5 8 36 1 2 := ⟨_, _, _, _, c167_5, rfl, by rw [k167]; exact tg11_198, rfl⟩
theorem g167_16 : pm_gF 167 16 19 11 1 2 := ⟨_, c167_16, by rw [k167]; exact fd11_19⟩
theorem q167_19 : pm_cF 167 19 22 28 1 1 := ⟨_, _, _, _, c167_19, rfl, by rw [k167]; exact tg11_156, rfl⟩
theorem tg11_195 : pm_tg 11 195 = some (108, 0, 1, false) := by decide +kernel
theorem q167_22 : pm_cF 167 22 25 108 1 1 := ⟨_, _, _, _, c167_22, rfl, by rw [k167]; exact tg11_195, rfl⟩
theorem g168_1 : pm_gF 168 1 4 11 2 2 := ⟨_, c168_1, by rw [k168]; exact fd11_26⟩
theorem tg11_355 : pm_tg 11 355 = some (3, 0, 1, false) := by decide +kernel
theorem q168_4 : pm_cF 168 4 7 3 1 1 := ⟨_, _, _, _, c168_4, rfl, by rw [k168]; exact tg11_355, rfl⟩
theorem g168_14 : pm_gF 168 14 17 11 2 2 := ⟨_, c168_14, by rw [k168]; exact fd11_26⟩
theorem g168_18 : pm_gF 168 18 21 11 1 2 := ⟨_, c168_18, by rw [k168]; exact fd11_19⟩
theorem q168_21 : pm_cF 168 21 24 28 1 1 := ⟨_, _, _, _, c168_21, rfl, by rw [k168]; exact tg11_156, rfl⟩
theorem tg11_358 : pm_tg 11 358 = some (4, 1, 1, false) := by decide +kernel
theorem q168_24 : pm_cF 168 24 27 4 1 2 := ⟨_, _, _, _, c168_24, rfl, by rw [k168]; exact tg11_358, rfl⟩
theorem g168_28 : pm_gF 168 28 31 11 2 2 := ⟨_, c168_28, by rw [k168]; exact fd11_26⟩
theorem q168_31 : pm_cF 168 31 34 3 1 1 := ⟨_, _, _, _, c168_31, rfl, by rw [k168]; exact tg11_355, rfl⟩
theorem g169_1 : pm_gF 169 1 4 11 2 2 := ⟨_, c169_1, by rw [k169]; exact fd11_26⟩
theorem q169_4 : pm_cF 169 4 7 3 1 1 := ⟨_, _, _, _, c169_4, rfl, by rw [k169]; exact tg11_355, rfl⟩
theorem g169_13 : pm_gF 169 13 16 11 2 2 := ⟨_, c169_13, by rw [k169]; exact fd11_26⟩
theorem g169_17 : pm_gF 169 17 20 11 1 2 := ⟨_, c169_17, by rw [k169]; exact fd11_19⟩
theorem q169_20 : pm_cF 169 20 23 28 1 1 := ⟨_, _, _, _, c169_20, rfl, by rw [k169]; exact tg11_156, rfl⟩
theorem tg11_361 : pm_tg 11 361 = some (5, 1, 1, false) := by decide +kernel
theorem q169_23 : pm_cF 169 23 26 5 1 2 := ⟨_, _, _, _, c169_23, rfl, by rw [k169]; exact tg11_361, rfl⟩
theorem p169_28 : pm_pF 169 28 31 11 11 0 := ⟨_, c169_28, by rw [k169]; exact fd11_82, by decide, by decide +kernel⟩
theorem g169_32 : pm_gF 169 32 35 11 2 2 := ⟨_, c169_32, by rw [k169]; exact fd11_26⟩
theorem q169_35 : pm_cF 169 35 38 3 1 1 := ⟨_, _, _, _, c169_35, rfl, by rw [k169]; exact tg11_355, rfl⟩
theorem g170_29 : pm_gF 170 29 32 11 12 0 := ⟨_, c170_29, by rw [k170]; exact fd11_86⟩
theorem g170_34 : pm_gF 170 34 37 11 13 0 := ⟨_, c170_34, by rw [k170]; exact fd11_89⟩
theorem g171_29 : pm_gF 171 29 32 11 2 2 := ⟨_, c171_29, by rw [k171]; exact fd11_26⟩
theorem q171_32 : pm_cF 171 32 35 3 1 1 := ⟨_, _, _, _, c171_32, rfl, by rw [k171]; exact tg11_355, rfl⟩
theorem g171_37 : pm_gF 171 37 40 11 0 2 := ⟨_, c171_37, by rw [k171]; exact fd11_10⟩
theorem q171_40 : pm_cF 171 40 43 123 1 1 := ⟨_, _, _, _, c171_40, rfl, by rw [k171]; exact tg11_92, rfl⟩
theorem g171_45 : pm_gF 171 45 48 11 2 2 := ⟨_, c171_45, by rw [k171]; exact fd11_26⟩
theorem q171_48 : pm_cF 171 48 51 1 1 1 := ⟨_, _, _, _, c171_48, rfl, by rw [k171]; exact tg11_147, rfl⟩
theorem tg11_100 : pm_tg 11 100 = some (173, 2, 1, false) := by decide +kernel
theorem q172_5 : pm_cF 172 5 8 173 1 3 := ⟨_, _, _, _, c172_5, rfl, by rw [k172]; exact tg11_100, rfl⟩
theorem g172_9 : pm_gF 172 9 12 11 0 2 := ⟨_, c172_9, by rw [k172]; exact fd11_10⟩
theorem tg11_104 : pm_tg 11 104 = some (126, 1, 1, false) := by decide +kernel
theorem q172_13 : pm_cF 172 13 16 126 1 2 := ⟨_, _, _, _, c172_13, rfl, by rw [k172]; exact tg11_104, rfl⟩
theorem g172_17 : pm_gF 172 17 20 11 8 2 := ⟨_, c172_17, by rw [k172]; exact fd11_68⟩
theorem g172_21 : pm_gF 172 21 24 11 0 2 := ⟨_, c172_21, by rw [k172]; exact fd11_10⟩
theorem tg11_107 : pm_tg 11 107 = some (86, 1, 1, false) := by decide +kernel
theorem q172_24 : pm_cF 172 24 27 86 1 2 := ⟨_, _, _, _, c172_24, rfl, by rw [k172]; exact tg11_107, rfl⟩
theorem g172_28 : pm_gF 172 28 31 11 0 2 := ⟨_, c172_28, by rw [k172]; exact fd11_10⟩
theorem tg11_111 : pm_tg 11 111 = some (137, 0, 1, false) := by decide +kernel
theorem q172_31 : pm_cF 172 31 34 137 1 1 := ⟨_, _, _, _, c172_31, rfl, by rw [k172]; exact tg11_111, rfl⟩
theorem g172_35 : pm_gF 172 35 38 11 0 2 := ⟨_, c172_35, by rw [k172]; exact fd11_10⟩
theorem tg11_114 : pm_tg 11 114 = some (138, 0, 1, false) := by decide +kernel
theorem q172_38 : pm_cF 172 38 41 138 1 1 := ⟨_, _, _, _, c172_38, rfl, by rw [k172]; exact tg11_114, rfl⟩
theorem g172_45 : pm_gF 172 45 48 11 0 2 := ⟨_, c172_45, by rw [k172]; exact fd11_10⟩
theorem tg11_118 : pm_tg 11 118 = some (139, 0, 1, false) := by decide +kernel
theorem q172_48 : pm_cF 172 48 51 139 1 1 := ⟨_, _, _, _, c172_48, rfl, by rw [k172]; exact tg11_118, rfl⟩
theorem g172_53 : pm_gF 172 53 56 11 1 2 := ⟨_, c172_53, by rw [k172]; exact fd11_19⟩
theorem tg11_121 : pm_tg 11 121 = some (37, 0, 1, false) := by decide +kernel
theorem q172_56 : pm_cF 172 56 59 37 1 1 := ⟨_, _, _, _, c172_56, rfl, by rw [k172]; exact tg11_121, rfl⟩
theorem g172_61 : pm_gF 172 61 64 11 1 2 := ⟨_, c172_61, by rw [k172]; exact fd11_19⟩
theorem g172_65 : pm_gF 172 65 68 11 8 2 := ⟨_, c172_65, by rw [k172]; exact fd11_68⟩
theorem tg11_125 : pm_tg 11 125 = some (38, 1, 1, false) := by decide +kernel
theorem q172_68 : pm_cF 172 68 71 38 1 2 := ⟨_, _, _, _, c172_68, rfl, by rw [k172]; exact tg11_125, rfl⟩
theorem p172_73 : pm_pF 172 73 76 11 8 2 := ⟨_, c172_73, by rw [k172]; exact fd11_68, by decide, by decide +kernel⟩
theorem g172_77 : pm_gF 172 77 80 11 9 2 := ⟨_, c172_77, by rw [k172]; exact fd11_75⟩
theorem tg11_129 : pm_tg 11 129 = some (9, 0, 1, false) := by decide +kernel
theorem q172_80 : pm_cF 172 80 83 9 1 1 := ⟨_, _, _, _, c172_80, rfl, by rw [k172]; exact tg11_129, rfl⟩
theorem g172_84 : pm_gF 172 84 87 11 2 2 := ⟨_, c172_84, by rw [k172]; exact fd11_26⟩
theorem tg11_130 : pm_tg 11 130 = some (6, 0, 1, false) := by decide +kernel
theorem q172_87 : pm_cF 172 87 90 6 1 1 := ⟨_, _, _, _, c172_87, rfl, by rw [k172]; exact tg11_130, rfl⟩
theorem p172_92 : pm_pF 172 92 95 11 11 0 := ⟨_, c172_92, by rw [k172]; exact fd11_82, by decide, by decide +kernel⟩
theorem g172_96 : pm_gF 172 96 99 11 1 2 := ⟨_, c172_96, by rw [k172]; exact fd11_19⟩
theorem q172_99 : pm_cF 172 99 102 37 1 1 := ⟨_, _, _, _, c172_99, rfl, by rw [k172]; exact tg11_121, rfl⟩
theorem tg11_131 : pm_tg 11 131 = some (81, 0, 1, false) := by decide +kernel
theorem q172_102 : pm_cF 172 102 105 81 1 1 := ⟨_, _, _, _, c172_102, rfl, by rw [k172]; exact tg11_131, rfl⟩
theorem g173_12 : pm_gF 173 12 15 11 0 2 := ⟨_, c173_12, by rw [k173]; exact fd11_10⟩
theorem q173_15 : pm_cF 173 15 18 123 1 1 := ⟨_, _, _, _, c173_15, rfl, by rw [k173]; exact tg11_92, rfl⟩
theorem tg11_134 : pm_tg 11 134 = some (174, 1, 1, false) := by decide +kernel
theorem q173_26 : pm_cF 173 26 29 174 1 2 := ⟨_, _, _, _, c173_26, rfl, by rw [k173]; exact tg11_134, rfl⟩
theorem g174_6 : pm_gF 174 6 9 11 13 0 := ⟨_, c174_6, by rw [k174]; exact fd11_89⟩
theorem p174_11 : pm_pF 174 11 14 11 13 0 := ⟨_, c174_11, by rw [k174]; exact fd11_89, by decide, by decide +kernel⟩
theorem ct11_366 : pm_ct 11 366 = some (.retAddr 2) := by decide +kernel
theorem v174_18 : pm_kF 174 18 21 (.retAddr 2) := ⟨_, _, c174_18, Or.inr rfl, by rw [k174]; exact ct11_366⟩
theorem q175_15 : pm_cF 175 15 18 174 1 2 := ⟨_, _, _, _, c175_15, rfl, by rw [k175]; exact tg11_134, rfl⟩
theorem q175_23 : pm_cF 175 23 26 173 1 3 := ⟨_, _, _, _, c175_23, rfl, by rw [k175]; exact tg11_100, rfl⟩
theorem g175_27 : pm_gF 175 27 30 11 0 2 := ⟨_, c175_27, by rw [k175]; exact fd11_10⟩
theorem q175_31 : pm_cF 175 31 34 126 1 2 := ⟨_, _, _, _, c175_31, rfl, by rw [k175]; exact tg11_104, rfl⟩
theorem g175_35 : pm_gF 175 35 38 11 3 2 := ⟨_, c175_35, by rw [k175]; exact fd11_33⟩
theorem g175_39 : pm_gF 175 39 42 11 0 2 := ⟨_, c175_39, by rw [k175]; exact fd11_10⟩
theorem tg11_138 : pm_tg 11 138 = some (20, 1, 1, false) := by decide +kernel
theorem q175_42 : pm_cF 175 42 45 20 1 2 := ⟨_, _, _, _, c175_42, rfl, by rw [k175]; exact tg11_138, rfl⟩
theorem g175_46 : pm_gF 175 46 49 11 0 2 := ⟨_, c175_46, by rw [k175]; exact fd11_10⟩
theorem q175_49 : pm_cF 175 49 52 137 1 1 := ⟨_, _, _, _, c175_49, rfl, by rw [k175]; exact tg11_111, rfl⟩
theorem g175_53 : pm_gF 175 53 56 11 0 2 := ⟨_, c175_53, by rw [k175]; exact fd11_10⟩
theorem q175_56 : pm_cF 175 56 59 138 1 1 := ⟨_, _, _, _, c175_56, rfl, by rw [k175]; exact tg11_114, rfl⟩
theorem g175_63 : pm_gF 175 63 66 11 0 2 := ⟨_, c175_63, by rw [k175]; exact fd11_10⟩
theorem q175_66 : pm_cF 175 66 69 139 1 1 := ⟨_, _, _, _, c175_66, rfl, by rw [k175]; exact tg11_118, rfl⟩
theorem g175_71 : pm_gF 175 71 74 11 1 2 := ⟨_, c175_71, by rw [k175]; exact fd11_19⟩
theorem tg11_139 : pm_tg 11 139 = some (33, 1, 1, false) := by decide +kernel
theorem q175_75 : pm_cF 175 75 78 33 1 2 := ⟨_, _, _, _, c175_75, rfl, by rw [k175]; exact tg11_139, rfl⟩
theorem g175_79 : pm_gF 175 79 82 11 3 2 := ⟨_, c175_79, by rw [k175]; exact fd11_33⟩
theorem tg11_143 : pm_tg 11 143 = some (26, 1, 1, false) := by decide +kernel
theorem q175_82 : pm_cF 175 82 85 26 1 2 := ⟨_, _, _, _, c175_82, rfl, by rw [k175]; exact tg11_143, rfl⟩
theorem q176_5 : pm_cF 176 5 8 173 1 3 := ⟨_, _, _, _, c176_5, rfl, by rw [k176]; exact tg11_100, rfl⟩
theorem g176_9 : pm_gF 176 9 12 11 2 2 := ⟨_, c176_9, by rw [k176]; exact fd11_26⟩
theorem q176_12 : pm_cF 176 12 15 1 1 1 := ⟨_, _, _, _, c176_12, rfl, by rw [k176]; exact tg11_147, rfl⟩
theorem g176_21 : pm_gF 176 21 24 11 0 2 := ⟨_, c176_21, by rw [k176]; exact fd11_10⟩
theorem tg11_150 : pm_tg 11 150 = some (127, 0, 1, false) := by decide +kernel
theorem q176_24 : pm_cF 176 24 27 127 1 1 := ⟨_, _, _, _, c176_24, rfl, by rw [k176]; exact tg11_150, rfl⟩
theorem g176_28 : pm_gF 176 28 31 11 0 2 := ⟨_, c176_28, by rw [k176]; exact fd11_10⟩
theorem q176_31 : pm_cF 176 31 34 137 1 1 := ⟨_, _, _, _, c176_31, rfl, by rw [k176]; exact tg11_111, rfl⟩
theorem g176_38 : pm_gF 176 38 41 11 0 2 := ⟨_, c176_38, by rw [k176]; exact fd11_10⟩
theorem q176_42 : pm_cF 176 42 45 126 1 2 := ⟨_, _, _, _, c176_42, rfl, by rw [k176]; exact tg11_104, rfl⟩
theorem g176_46 : pm_gF 176 46 49 11 4 2 := ⟨_, c176_46, by rw [k176]; exact fd11_40⟩
theorem g176_50 : pm_gF 176 50 53 11 0 2 := ⟨_, c176_50, by rw [k176]; exact fd11_10⟩
theorem g176_54 : pm_gF 176 54 57 11 1 2 := ⟨_, c176_54, by rw [k176]; exact fd11_19⟩
theorem q176_57 : pm_cF 176 57 60 37 1 1 := ⟨_, _, _, _, c176_57, rfl, by rw [k176]; exact tg11_121, rfl⟩
theorem tg11_153 : pm_tg 11 153 = some (111, 2, 1, false) := by decide +kernel
theorem q176_60 : pm_cF 176 60 63 111 1 3 := ⟨_, _, _, _, c176_60, rfl, by rw [k176]; exact tg11_153, rfl⟩
theorem g176_64 : pm_gF 176 64 67 11 0 2 := ⟨_, c176_64, by rw [k176]; exact fd11_10⟩
theorem q176_67 : pm_cF 176 67 70 137 1 1 := ⟨_, _, _, _, c176_67, rfl, by rw [k176]; exact tg11_111, rfl⟩
theorem g176_71 : pm_gF 176 71 74 11 0 2 := ⟨_, c176_71, by rw [k176]; exact fd11_10⟩
theorem q176_74 : pm_cF 176 74 77 138 1 1 := ⟨_, _, _, _, c176_74, rfl, by rw [k176]; exact tg11_114, rfl⟩
theorem g176_81 : pm_gF 176 81 84 11 0 2 := ⟨_, c176_81, by rw [k176]; exact fd11_10⟩
theorem q176_84 : pm_cF 176 84 87 139 1 1 := ⟨_, _, _, _, c176_84, rfl, by rw [k176]; exact tg11_118, rfl⟩
theorem g176_89 : pm_gF 176 89 92 11 2 2 := ⟨_, c176_89, by rw [k176]; exact fd11_26⟩
theorem g176_93 : pm_gF 176 93 96 11 1 2 := ⟨_, c176_93, by rw [k176]; exact fd11_19⟩
theorem q176_96 : pm_cF 176 96 99 28 1 1 := ⟨_, _, _, _, c176_96, rfl, by rw [k176]; exact tg11_156, rfl⟩
theorem tg11_160 : pm_tg 11 160 = some (7, 1, 1, false) := by decide +kernel
theorem q176_99 : pm_cF 176 99 102 7 1 2 := ⟨_, _, _, _, c176_99, rfl, by rw [k176]; exact tg11_160, rfl⟩
theorem g176_103 : pm_gF 176 103 106 11 4 2 := ⟨_, c176_103, by rw [k176]; exact fd11_40⟩
theorem tg11_164 : pm_tg 11 164 = some (116, 0, 1, false) := by decide +kernel
theorem q176_106 : pm_cF 176 106 109 116 1 1 := ⟨_, _, _, _, c176_106, rfl, by rw [k176]; exact tg11_164, rfl⟩
theorem g176_110 : pm_gF 176 110 113 11 4 2 := ⟨_, c176_110, by rw [k176]; exact fd11_40⟩
theorem g176_114 : pm_gF 176 114 117 11 1 2 := ⟨_, c176_114, by rw [k176]; exact fd11_19⟩
theorem g176_119 : pm_gF 176 119 122 11 4 2 := ⟨_, c176_119, by rw [k176]; exact fd11_40⟩
theorem tg11_166 : pm_tg 11 166 = some (117, 0, 1, false) := by decide +kernel
theorem q176_122 : pm_cF 176 122 125 117 1 1 := ⟨_, _, _, _, c176_122, rfl, by rw [k176]; exact tg11_166, rfl⟩
theorem tg11_167 : pm_tg 11 167 = some (118, 4, 1, true) := by decide +kernel
theorem q176_126 : pm_cF 176 126 129 118 1 5 := ⟨_, _, _, _, c176_126, rfl, by rw [k176]; exact tg11_167, rfl⟩
theorem g176_131 : pm_gF 176 131 134 11 4 2 := ⟨_, c176_131, by rw [k176]; exact fd11_40⟩
theorem tg11_171 : pm_tg 11 171 = some (120, 0, 1, false) := by decide +kernel
theorem q176_134 : pm_cF 176 134 137 120 1 1 := ⟨_, _, _, _, c176_134, rfl, by rw [k176]; exact tg11_171, rfl⟩
theorem p176_137 : pm_pF 176 137 140 11 11 0 := ⟨_, c176_137, by rw [k176]; exact fd11_82, by decide, by decide +kernel⟩
theorem g176_141 : pm_gF 176 141 144 11 4 2 := ⟨_, c176_141, by rw [k176]; exact fd11_40⟩
theorem tg11_174 : pm_tg 11 174 = some (121, 0, 1, false) := by decide +kernel
theorem q176_144 : pm_cF 176 144 147 121 1 1 := ⟨_, _, _, _, c176_144, rfl, by rw [k176]; exact tg11_174, rfl⟩
theorem q177_4 : pm_cF 177 4 7 173 1 3 := ⟨_, _, _, _, c177_4, rfl, by rw [k177]; exact tg11_100, rfl⟩
theorem g177_8 : pm_gF 177 8 11 11 0 2 := ⟨_, c177_8, by rw [k177]; exact fd11_10⟩
theorem q177_12 : pm_cF 177 12 15 126 1 2 := ⟨_, _, _, _, c177_12, rfl, by rw [k177]; exact tg11_104, rfl⟩
theorem g177_16 : pm_gF 177 16 19 11 10 2 := ⟨_, c177_16, by rw [k177]; exact fd11_79⟩
theorem g177_20 : pm_gF 177 20 23 11 0 2 := ⟨_, c177_20, by rw [k177]; exact fd11_10⟩
theorem tg11_177 : pm_tg 11 177 = some (10, 1, 1, false) := by decide +kernel
theorem q177_23 : pm_cF 177 23 26 10 1 2 := ⟨_, _, _, _, c177_23, rfl, by rw [k177]; exact tg11_177, rfl⟩
theorem g177_27 : pm_gF 177 27 30 11 0 2 := ⟨_, c177_27, by rw [k177]; exact fd11_10⟩
theorem q177_30 : pm_cF 177 30 33 137 1 1 := ⟨_, _, _, _, c177_30, rfl, by rw [k177]; exact tg11_111, rfl⟩
theorem g177_34 : pm_gF 177 34 37 11 0 2 := ⟨_, c177_34, by rw [k177]; exact fd11_10⟩
theorem q177_37 : pm_cF 177 37 40 138 1 1 := ⟨_, _, _, _, c177_37, rfl, by rw [k177]; exact tg11_114, rfl⟩
theorem g177_44 : pm_gF 177 44 47 11 0 2 := ⟨_, c177_44, by rw [k177]; exact fd11_10⟩
theorem q177_47 : pm_cF 177 47 50 139 1 1 := ⟨_, _, _, _, c177_47, rfl, by rw [k177]; exact tg11_118, rfl⟩
theorem g177_52 : pm_gF 177 52 55 11 9 2 := ⟨_, c177_52, by rw [k177]; exact fd11_75⟩
theorem g177_58 : pm_gF 177 58 61 11 10 2 := ⟨_, c177_58, by rw [k177]; exact fd11_79⟩
theorem p177_61 : pm_pF 177 61 64 11 9 2 := ⟨_, c177_61, by rw [k177]; exact fd11_75, by decide, by decide +kernel⟩
theorem p177_66 : pm_pF 177 66 69 11 10 2 := ⟨_, c177_66, by rw [k177]; exact fd11_79, by decide, by decide +kernel⟩
theorem g177_70 : pm_gF 177 70 73 11 9 2 := ⟨_, c177_70, by rw [k177]; exact fd11_75⟩
theorem tg11_178 : pm_tg 11 178 = some (13, 0, 1, false) := by decide +kernel
theorem q177_73 : pm_cF 177 73 76 13 1 1 := ⟨_, _, _, _, c177_73, rfl, by rw [k177]; exact tg11_178, rfl⟩
theorem q178_16 : pm_cF 178 16 19 174 1 2 := ⟨_, _, _, _, c178_16, rfl, by rw [k178]; exact tg11_134, rfl⟩
theorem g178_77 : pm_gF 178 77 80 11 1 2 := ⟨_, c178_77, by rw [k178]; exact fd11_19⟩
theorem q178_80 : pm_cF 178 80 83 37 1 1 := ⟨_, _, _, _, c178_80, rfl, by rw [k178]; exact tg11_121, rfl⟩
theorem q178_83 : pm_cF 178 83 86 81 1 1 := ⟨_, _, _, _, c178_83, rfl, by rw [k178]; exact tg11_131, rfl⟩
theorem g178_88 : pm_gF 178 88 91 11 1 2 := ⟨_, c178_88, by rw [k178]; exact fd11_19⟩
theorem q178_91 : pm_cF 178 91 94 37 1 1 := ⟨_, _, _, _, c178_91, rfl, by rw [k178]; exact tg11_121, rfl⟩
theorem tg11_187 : pm_tg 11 187 = some (92, 0, 1, false) := by decide +kernel
theorem q178_94 : pm_cF 178 94 97 92 1 1 := ⟨_, _, _, _, c178_94, rfl, by rw [k178]; exact tg11_187, rfl⟩
theorem g178_99 : pm_gF 178 99 102 11 1 2 := ⟨_, c178_99, by rw [k178]; exact fd11_19⟩
theorem q178_102 : pm_cF 178 102 105 28 1 1 := ⟨_, _, _, _, c178_102, rfl, by rw [k178]; exact tg11_156, rfl⟩
theorem tg11_190 : pm_tg 11 190 = some (107, 0, 1, false) := by decide +kernel
theorem q178_105 : pm_cF 178 105 108 107 1 1 := ⟨_, _, _, _, c178_105, rfl, by rw [k178]; exact tg11_190, rfl⟩
theorem g178_110 : pm_gF 178 110 113 11 1 2 := ⟨_, c178_110, by rw [k178]; exact fd11_19⟩
theorem q178_113 : pm_cF 178 113 116 28 1 1 := ⟨_, _, _, _, c178_113, rfl, by rw [k178]; exact tg11_156, rfl⟩
theorem q178_116 : pm_cF 178 116 119 108 1 1 := ⟨_, _, _, _, c178_116, rfl, by rw [k178]; exact tg11_195, rfl⟩
theorem g178_121 : pm_gF 178 121 124 11 1 2 := ⟨_, c178_121, by rw [k178]; exact fd11_19⟩
theorem q178_125 : pm_cF 178 125 128 36 1 2 := ⟨_, _, _, _, c178_125, rfl, by rw [k178]; exact tg11_198, rfl⟩
theorem g178_130 : pm_gF 178 130 133 11 1 2 := ⟨_, c178_130, by rw [k178]; exact fd11_19⟩
theorem q178_134 : pm_cF 178 134 137 36 1 2 := ⟨_, _, _, _, c178_134, rfl, by rw [k178]; exact tg11_198, rfl⟩
theorem g178_139 : pm_gF 178 139 142 11 1 2 := ⟨_, c178_139, by rw [k178]; exact fd11_19⟩
theorem q178_143 : pm_cF 178 143 146 36 1 2 := ⟨_, _, _, _, c178_143, rfl, by rw [k178]; exact tg11_198, rfl⟩
theorem g178_148 : pm_gF 178 148 151 11 1 2 := ⟨_, c178_148, by rw [k178]; exact fd11_19⟩
theorem q178_152 : pm_cF 178 152 155 36 1 2 := ⟨_, _, _, _, c178_152, rfl, by rw [k178]; exact tg11_198, rfl⟩
theorem g178_157 : pm_gF 178 157 160 11 9 2 := ⟨_, c178_157, by rw [k178]; exact fd11_75⟩
theorem q178_160 : pm_cF 178 160 163 13 1 1 := ⟨_, _, _, _, c178_160, rfl, by rw [k178]; exact tg11_178, rfl⟩
theorem g178_165 : pm_gF 178 165 168 11 11 0 := ⟨_, c178_165, by rw [k178]; exact fd11_82⟩
theorem g178_170 : pm_gF 178 170 173 11 1 2 := ⟨_, c178_170, by rw [k178]; exact fd11_19⟩
theorem q178_173 : pm_cF 178 173 176 37 1 1 := ⟨_, _, _, _, c178_173, rfl, by rw [k178]; exact tg11_121, rfl⟩
theorem tg11_202 : pm_tg 11 202 = some (93, 0, 1, false) := by decide +kernel
theorem q178_176 : pm_cF 178 176 179 93 1 1 := ⟨_, _, _, _, c178_176, rfl, by rw [k178]; exact tg11_202, rfl⟩
theorem tg11_205 : pm_tg 11 205 = some (180, 1, 1, false) := by decide +kernel
theorem q179_2 : pm_cF 179 2 5 180 1 2 := ⟨_, _, _, _, c179_2, rfl, by rw [k179]; exact tg11_205, rfl⟩
theorem q179_21 : pm_cF 179 21 24 174 1 2 := ⟨_, _, _, _, c179_21, rfl, by rw [k179]; exact tg11_134, rfl⟩
theorem g179_77 : pm_gF 179 77 80 11 1 2 := ⟨_, c179_77, by rw [k179]; exact fd11_19⟩
theorem q179_80 : pm_cF 179 80 83 37 1 1 := ⟨_, _, _, _, c179_80, rfl, by rw [k179]; exact tg11_121, rfl⟩
theorem tg11_208 : pm_tg 11 208 = some (82, 1, 1, false) := by decide +kernel
theorem q179_84 : pm_cF 179 84 87 82 1 2 := ⟨_, _, _, _, c179_84, rfl, by rw [k179]; exact tg11_208, rfl⟩
theorem g179_89 : pm_gF 179 89 92 11 1 2 := ⟨_, c179_89, by rw [k179]; exact fd11_19⟩
theorem q179_92 : pm_cF 179 92 95 37 1 1 := ⟨_, _, _, _, c179_92, rfl, by rw [k179]; exact tg11_121, rfl⟩
theorem tg11_211 : pm_tg 11 211 = some (83, 1, 1, false) := by decide +kernel
theorem q179_96 : pm_cF 179 96 99 83 1 2 := ⟨_, _, _, _, c179_96, rfl, by rw [k179]; exact tg11_211, rfl⟩
theorem g179_101 : pm_gF 179 101 104 11 1 2 := ⟨_, c179_101, by rw [k179]; exact fd11_19⟩
theorem q179_104 : pm_cF 179 104 107 37 1 1 := ⟨_, _, _, _, c179_104, rfl, by rw [k179]; exact tg11_121, rfl⟩
theorem tg11_214 : pm_tg 11 214 = some (96, 1, 1, false) := by decide +kernel
theorem q179_108 : pm_cF 179 108 111 96 1 2 := ⟨_, _, _, _, c179_108, rfl, by rw [k179]; exact tg11_214, rfl⟩
theorem g179_113 : pm_gF 179 113 116 11 1 2 := ⟨_, c179_113, by rw [k179]; exact fd11_19⟩
theorem q179_116 : pm_cF 179 116 119 28 1 1 := ⟨_, _, _, _, c179_116, rfl, by rw [k179]; exact tg11_156, rfl⟩
theorem tg11_217 : pm_tg 11 217 = some (106, 2, 1, false) := by decide +kernel
theorem q179_121 : pm_cF 179 121 124 106 1 3 := ⟨_, _, _, _, c179_121, rfl, by rw [k179]; exact tg11_217, rfl⟩
theorem g179_126 : pm_gF 179 126 129 11 1 2 := ⟨_, c179_126, by rw [k179]; exact fd11_19⟩
theorem q179_129 : pm_cF 179 129 132 28 1 1 := ⟨_, _, _, _, c179_129, rfl, by rw [k179]; exact tg11_156, rfl⟩
theorem q179_134 : pm_cF 179 134 137 106 1 3 := ⟨_, _, _, _, c179_134, rfl, by rw [k179]; exact tg11_217, rfl⟩
theorem g179_139 : pm_gF 179 139 142 11 1 2 := ⟨_, c179_139, by rw [k179]; exact fd11_19⟩
theorem q179_142 : pm_cF 179 142 145 28 1 1 := ⟨_, _, _, _, c179_142, rfl, by rw [k179]; exact tg11_156, rfl⟩
theorem q179_147 : pm_cF 179 147 150 106 1 3 := ⟨_, _, _, _, c179_147, rfl, by rw [k179]; exact tg11_217, rfl⟩
theorem g179_152 : pm_gF 179 152 155 11 1 2 := ⟨_, c179_152, by rw [k179]; exact fd11_19⟩
theorem q179_155 : pm_cF 179 155 158 28 1 1 := ⟨_, _, _, _, c179_155, rfl, by rw [k179]; exact tg11_156, rfl⟩
theorem q179_160 : pm_cF 179 160 163 106 1 3 := ⟨_, _, _, _, c179_160, rfl, by rw [k179]; exact tg11_217, rfl⟩
theorem g179_165 : pm_gF 179 165 168 11 1 2 := ⟨_, c179_165, by rw [k179]; exact fd11_19⟩
theorem q179_168 : pm_cF 179 168 171 28 1 1 := ⟨_, _, _, _, c179_168, rfl, by rw [k179]; exact tg11_156, rfl⟩
theorem q179_173 : pm_cF 179 173 176 106 1 3 := ⟨_, _, _, _, c179_173, rfl, by rw [k179]; exact tg11_217, rfl⟩
theorem g179_178 : pm_gF 179 178 181 11 1 2 := ⟨_, c179_178, by rw [k179]; exact fd11_19⟩
theorem q179_181 : pm_cF 179 181 184 28 1 1 := ⟨_, _, _, _, c179_181, rfl, by rw [k179]; exact tg11_156, rfl⟩
theorem q179_186 : pm_cF 179 186 189 106 1 3 := ⟨_, _, _, _, c179_186, rfl, by rw [k179]; exact tg11_217, rfl⟩
theorem g179_191 : pm_gF 179 191 194 11 1 2 := ⟨_, c179_191, by rw [k179]; exact fd11_19⟩
theorem q179_194 : pm_cF 179 194 197 28 1 1 := ⟨_, _, _, _, c179_194, rfl, by rw [k179]; exact tg11_156, rfl⟩
theorem q179_200 : pm_cF 179 200 203 106 1 3 := ⟨_, _, _, _, c179_200, rfl, by rw [k179]; exact tg11_217, rfl⟩
theorem g180_1 : pm_gF 180 1 4 11 1 2 := ⟨_, c180_1, by rw [k180]; exact fd11_19⟩
theorem q180_4 : pm_cF 180 4 7 37 1 1 := ⟨_, _, _, _, c180_4, rfl, by rw [k180]; exact tg11_121, rfl⟩
theorem tg11_371 : pm_tg 11 371 = some (95, 1, 1, false) := by decide +kernel
theorem q180_8 : pm_cF 180 8 11 95 1 2 := ⟨_, _, _, _, c180_8, rfl, by rw [k180]; exact tg11_371, rfl⟩
theorem g180_16 : pm_gF 180 16 19 11 12 0 := ⟨_, c180_16, by rw [k180]; exact fd11_86⟩
theorem p180_21 : pm_pF 180 21 24 11 12 0 := ⟨_, c180_21, by rw [k180]; exact fd11_86, by decide, by decide +kernel⟩
theorem ct11_376 : pm_ct 11 376 = some (.retAddr 50) := by decide +kernel
theorem v180_28 : pm_kF 180 28 31 (.retAddr 50) := ⟨_, _, c180_28, Or.inr rfl, by rw [k180]; exact ct11_376⟩
theorem tg11_221 : pm_tg 11 221 = some (182, 1, 1, false) := by decide +kernel
theorem q181_2 : pm_cF 181 2 5 182 1 2 := ⟨_, _, _, _, c181_2, rfl, by rw [k181]; exact tg11_221, rfl⟩
theorem q181_20 : pm_cF 181 20 23 174 1 2 := ⟨_, _, _, _, c181_20, rfl, by rw [k181]; exact tg11_134, rfl⟩
theorem g181_53 : pm_gF 181 53 56 11 1 2 := ⟨_, c181_53, by rw [k181]; exact fd11_19⟩
theorem q181_56 : pm_cF 181 56 59 37 1 1 := ⟨_, _, _, _, c181_56, rfl, by rw [k181]; exact tg11_121, rfl⟩
theorem tg11_224 : pm_tg 11 224 = some (98, 1, 1, false) := by decide +kernel
theorem q181_60 : pm_cF 181 60 63 98 1 2 := ⟨_, _, _, _, c181_60, rfl, by rw [k181]; exact tg11_224, rfl⟩
theorem g181_65 : pm_gF 181 65 68 11 1 2 := ⟨_, c181_65, by rw [k181]; exact fd11_19⟩
theorem q181_68 : pm_cF 181 68 71 37 1 1 := ⟨_, _, _, _, c181_68, rfl, by rw [k181]; exact tg11_121, rfl⟩
theorem tg11_227 : pm_tg 11 227 = some (99, 1, 1, false) := by decide +kernel
theorem q181_72 : pm_cF 181 72 75 99 1 2 := ⟨_, _, _, _, c181_72, rfl, by rw [k181]; exact tg11_227, rfl⟩
theorem g181_77 : pm_gF 181 77 80 11 1 2 := ⟨_, c181_77, by rw [k181]; exact fd11_19⟩
theorem q181_80 : pm_cF 181 80 83 37 1 1 := ⟨_, _, _, _, c181_80, rfl, by rw [k181]; exact tg11_121, rfl⟩
theorem tg11_230 : pm_tg 11 230 = some (94, 1, 1, false) := by decide +kernel
theorem q181_84 : pm_cF 181 84 87 94 1 2 := ⟨_, _, _, _, c181_84, rfl, by rw [k181]; exact tg11_230, rfl⟩
theorem g181_89 : pm_gF 181 89 92 11 1 2 := ⟨_, c181_89, by rw [k181]; exact fd11_19⟩
theorem tg11_233 : pm_tg 11 233 = some (42, 1, 1, false) := by decide +kernel
theorem q181_93 : pm_cF 181 93 96 42 1 2 := ⟨_, _, _, _, c181_93, rfl, by rw [k181]; exact tg11_233, rfl⟩
theorem g182_1 : pm_gF 182 1 4 11 1 2 := ⟨_, c182_1, by rw [k182]; exact fd11_19⟩
theorem q182_4 : pm_cF 182 4 7 37 1 1 := ⟨_, _, _, _, c182_4, rfl, by rw [k182]; exact tg11_121, rfl⟩
theorem tg11_379 : pm_tg 11 379 = some (97, 1, 1, false) := by decide +kernel
theorem q182_8 : pm_cF 182 8 11 97 1 2 := ⟨_, _, _, _, c182_8, rfl, by rw [k182]; exact tg11_379, rfl⟩
theorem g182_16 : pm_gF 182 16 19 11 12 0 := ⟨_, c182_16, by rw [k182]; exact fd11_86⟩
theorem p182_21 : pm_pF 182 21 24 11 12 0 := ⟨_, c182_21, by rw [k182]; exact fd11_86, by decide, by decide +kernel⟩
theorem ct11_382 : pm_ct 11 382 = some (.retAddr 52) := by decide +kernel
theorem v182_28 : pm_kF 182 28 31 (.retAddr 52) := ⟨_, _, c182_28, Or.inr rfl, by rw [k182]; exact ct11_382⟩
theorem q183_2 : pm_cF 183 2 5 180 1 2 := ⟨_, _, _, _, c183_2, rfl, by rw [k183]; exact tg11_205, rfl⟩
theorem q183_20 : pm_cF 183 20 23 174 1 2 := ⟨_, _, _, _, c183_20, rfl, by rw [k183]; exact tg11_134, rfl⟩
theorem g183_24 : pm_gF 183 24 27 11 1 2 := ⟨_, c183_24, by rw [k183]; exact fd11_19⟩
theorem tg11_236 : pm_tg 11 236 = some (31, 2, 1, false) := by decide +kernel
theorem q183_29 : pm_cF 183 29 32 31 1 3 := ⟨_, _, _, _, c183_29, rfl, by rw [k183]; exact tg11_236, rfl⟩
theorem q184_2 : pm_cF 184 2 5 180 1 2 := ⟨_, _, _, _, c184_2, rfl, by rw [k184]; exact tg11_205, rfl⟩
theorem g184_6 : pm_gF 184 6 9 11 1 2 := ⟨_, c184_6, by rw [k184]; exact fd11_19⟩
theorem tg11_239 : pm_tg 11 239 = some (47, 1, 1, false) := by decide +kernel
theorem q184_10 : pm_cF 184 10 13 47 1 2 := ⟨_, _, _, _, c184_10, rfl, by rw [k184]; exact tg11_239, rfl⟩
theorem q185_17 : pm_cF 185 17 20 174 1 2 := ⟨_, _, _, _, c185_17, rfl, by rw [k185]; exact tg11_134, rfl⟩
theorem q185_36 : pm_cF 185 36 39 174 1 2 := ⟨_, _, _, _, c185_36, rfl, by rw [k185]; exact tg11_134, rfl⟩
theorem q185_54 : pm_cF 185 54 57 174 1 2 := ⟨_, _, _, _, c185_54, rfl, by rw [k185]; exact tg11_134, rfl⟩
theorem q185_75 : pm_cF 185 75 78 174 1 2 := ⟨_, _, _, _, c185_75, rfl, by rw [k185]; exact tg11_134, rfl⟩
theorem q185_95 : pm_cF 185 95 98 174 1 2 := ⟨_, _, _, _, c185_95, rfl, by rw [k185]; exact tg11_134, rfl⟩
theorem q185_117 : pm_cF 185 117 120 174 1 2 := ⟨_, _, _, _, c185_117, rfl, by rw [k185]; exact tg11_134, rfl⟩
theorem g185_121 : pm_gF 185 121 124 11 1 2 := ⟨_, c185_121, by rw [k185]; exact fd11_19⟩
theorem tg11_242 : pm_tg 11 242 = some (52, 6, 1, false) := by decide +kernel
theorem q185_133 : pm_cF 185 133 136 52 1 7 := ⟨_, _, _, _, c185_133, rfl, by rw [k185]; exact tg11_242, rfl⟩
theorem q186_2 : pm_cF 186 2 5 180 1 2 := ⟨_, _, _, _, c186_2, rfl, by rw [k186]; exact tg11_205, rfl⟩
theorem g186_6 : pm_gF 186 6 9 11 1 2 := ⟨_, c186_6, by rw [k186]; exact fd11_19⟩
theorem tg11_249 : pm_tg 11 249 = some (53, 3, 1, false) := by decide +kernel
theorem q186_14 : pm_cF 186 14 17 53 1 4 := ⟨_, _, _, _, c186_14, rfl, by rw [k186]; exact tg11_249, rfl⟩
theorem q187_2 : pm_cF 187 2 5 180 1 2 := ⟨_, _, _, _, c187_2, rfl, by rw [k187]; exact tg11_205, rfl⟩
theorem g187_6 : pm_gF 187 6 9 11 1 2 := ⟨_, c187_6, by rw [k187]; exact fd11_19⟩
theorem q187_14 : pm_cF 187 14 17 53 1 4 := ⟨_, _, _, _, c187_14, rfl, by rw [k187]; exact tg11_249, rfl⟩
theorem q188_17 : pm_cF 188 17 20 174 1 2 := ⟨_, _, _, _, c188_17, rfl, by rw [k188]; exact tg11_134, rfl⟩
theorem q188_35 : pm_cF 188 35 38 174 1 2 := ⟨_, _, _, _, c188_35, rfl, by rw [k188]; exact tg11_134, rfl⟩
theorem g188_65 : pm_gF 188 65 68 11 1 2 := ⟨_, c188_65, by rw [k188]; exact fd11_19⟩
theorem tg11_253 : pm_tg 11 253 = some (54, 1, 1, false) := by decide +kernel
theorem q188_69 : pm_cF 188 69 72 54 1 2 := ⟨_, _, _, _, c188_69, rfl, by rw [k188]; exact tg11_253, rfl⟩
theorem g188_74 : pm_gF 188 74 77 11 1 2 := ⟨_, c188_74, by rw [k188]; exact fd11_19⟩
theorem tg11_256 : pm_tg 11 256 = some (55, 1, 1, false) := by decide +kernel
theorem q188_78 : pm_cF 188 78 81 55 1 2 := ⟨_, _, _, _, c188_78, rfl, by rw [k188]; exact tg11_256, rfl⟩
theorem g188_84 : pm_gF 188 84 87 11 1 2 := ⟨_, c188_84, by rw [k188]; exact fd11_19⟩
theorem q188_88 : pm_cF 188 88 91 36 1 2 := ⟨_, _, _, _, c188_88, rfl, by rw [k188]; exact tg11_198, rfl⟩
theorem g188_94 : pm_gF 188 94 97 11 1 2 := ⟨_, c188_94, by rw [k188]; exact fd11_19⟩
theorem q188_97 : pm_cF 188 97 100 28 1 1 := ⟨_, _, _, _, c188_97, rfl, by rw [k188]; exact tg11_156, rfl⟩
theorem q188_100 : pm_cF 188 100 103 108 1 1 := ⟨_, _, _, _, c188_100, rfl, by rw [k188]; exact tg11_195, rfl⟩
theorem tg11_259 : pm_tg 11 259 = some (362, 2, 0, false) := by decide +kernel
theorem q188_104 : pm_cF 188 104 107 362 0 2 := ⟨_, _, _, _, c188_104, rfl, by rw [k188]; exact tg11_259, rfl⟩
theorem q189_2 : pm_cF 189 2 5 182 1 2 := ⟨_, _, _, _, c189_2, rfl, by rw [k189]; exact tg11_221, rfl⟩
theorem q189_7 : pm_cF 189 7 10 180 1 2 := ⟨_, _, _, _, c189_7, rfl, by rw [k189]; exact tg11_205, rfl⟩
theorem g189_11 : pm_gF 189 11 14 11 1 2 := ⟨_, c189_11, by rw [k189]; exact fd11_19⟩
theorem g189_16 : pm_gF 189 16 19 11 1 2 := ⟨_, c189_16, by rw [k189]; exact fd11_19⟩
theorem q189_20 : pm_cF 189 20 23 47 1 2 := ⟨_, _, _, _, c189_20, rfl, by rw [k189]; exact tg11_239, rfl⟩
theorem tg11_264 : pm_tg 11 264 = some (56, 3, 1, false) := by decide +kernel
theorem q189_24 : pm_cF 189 24 27 56 1 4 := ⟨_, _, _, _, c189_24, rfl, by rw [k189]; exact tg11_264, rfl⟩
theorem q190_15 : pm_cF 190 15 18 174 1 2 := ⟨_, _, _, _, c190_15, rfl, by rw [k190]; exact tg11_134, rfl⟩
theorem g190_19 : pm_gF 190 19 22 11 6 2 := ⟨_, c190_19, by rw [k190]; exact fd11_54⟩
theorem g190_23 : pm_gF 190 23 26 11 1 2 := ⟨_, c190_23, by rw [k190]; exact fd11_19⟩
theorem tg11_267 : pm_tg 11 267 = some (63, 1, 1, false) := by decide +kernel
theorem q190_26 : pm_cF 190 26 29 63 1 2 := ⟨_, _, _, _, c190_26, rfl, by rw [k190]; exact tg11_267, rfl⟩
theorem g190_34 : pm_gF 190 34 37 11 6 2 := ⟨_, c190_34, by rw [k190]; exact fd11_54⟩
theorem tg11_271 : pm_tg 11 271 = some (75, 0, 1, false) := by decide +kernel
theorem q190_37 : pm_cF 190 37 40 75 1 1 := ⟨_, _, _, _, c190_37, rfl, by rw [k190]; exact tg11_271, rfl⟩
theorem g190_44 : pm_gF 190 44 47 11 6 2 := ⟨_, c190_44, by rw [k190]; exact fd11_54⟩
theorem tg11_274 : pm_tg 11 274 = some (76, 0, 1, false) := by decide +kernel
theorem q190_47 : pm_cF 190 47 50 76 1 1 := ⟨_, _, _, _, c190_47, rfl, by rw [k190]; exact tg11_274, rfl⟩
theorem q191_2 : pm_cF 191 2 5 180 1 2 := ⟨_, _, _, _, c191_2, rfl, by rw [k191]; exact tg11_205, rfl⟩
theorem g191_6 : pm_gF 191 6 9 11 6 2 := ⟨_, c191_6, by rw [k191]; exact fd11_54⟩
theorem g191_10 : pm_gF 191 10 13 11 1 2 := ⟨_, c191_10, by rw [k191]; exact fd11_19⟩
theorem q191_13 : pm_cF 191 13 16 63 1 2 := ⟨_, _, _, _, c191_13, rfl, by rw [k191]; exact tg11_267, rfl⟩
theorem g191_17 : pm_gF 191 17 20 11 6 2 := ⟨_, c191_17, by rw [k191]; exact fd11_54⟩
theorem tg11_277 : pm_tg 11 277 = some (77, 1, 1, false) := by decide +kernel
theorem q191_21 : pm_cF 191 21 24 77 1 2 := ⟨_, _, _, _, c191_21, rfl, by rw [k191]; exact tg11_277, rfl⟩
theorem q192_2 : pm_cF 192 2 5 180 1 2 := ⟨_, _, _, _, c192_2, rfl, by rw [k192]; exact tg11_205, rfl⟩
theorem g192_6 : pm_gF 192 6 9 11 1 2 := ⟨_, c192_6, by rw [k192]; exact fd11_19⟩
theorem q192_9 : pm_cF 192 9 12 37 1 1 := ⟨_, _, _, _, c192_9, rfl, by rw [k192]; exact tg11_121, rfl⟩
theorem tg11_283 : pm_tg 11 283 = some (84, 1, 1, false) := by decide +kernel
theorem q192_13 : pm_cF 192 13 16 84 1 2 := ⟨_, _, _, _, c192_13, rfl, by rw [k192]; exact tg11_283, rfl⟩
theorem q193_2 : pm_cF 193 2 5 180 1 2 := ⟨_, _, _, _, c193_2, rfl, by rw [k193]; exact tg11_205, rfl⟩
theorem g193_6 : pm_gF 193 6 9 11 1 2 := ⟨_, c193_6, by rw [k193]; exact fd11_19⟩
theorem tg11_286 : pm_tg 11 286 = some (58, 1, 1, false) := by decide +kernel
theorem q193_10 : pm_cF 193 10 13 58 1 2 := ⟨_, _, _, _, c193_10, rfl, by rw [k193]; exact tg11_286, rfl⟩
theorem q194_2 : pm_cF 194 2 5 180 1 2 := ⟨_, _, _, _, c194_2, rfl, by rw [k194]; exact tg11_205, rfl⟩
theorem g194_6 : pm_gF 194 6 9 11 1 2 := ⟨_, c194_6, by rw [k194]; exact fd11_19⟩
theorem g194_11 : pm_gF 194 11 14 11 1 2 := ⟨_, c194_11, by rw [k194]; exact fd11_19⟩
theorem q194_15 : pm_cF 194 15 18 58 1 2 := ⟨_, _, _, _, c194_15, rfl, by rw [k194]; exact tg11_286, rfl⟩
theorem tg11_289 : pm_tg 11 289 = some (48, 2, 1, false) := by decide +kernel
theorem q194_18 : pm_cF 194 18 21 48 1 3 := ⟨_, _, _, _, c194_18, rfl, by rw [k194]; exact tg11_289, rfl⟩
theorem q195_16 : pm_cF 195 16 19 174 1 2 := ⟨_, _, _, _, c195_16, rfl, by rw [k195]; exact tg11_134, rfl⟩
theorem g195_20 : pm_gF 195 20 23 11 1 2 := ⟨_, c195_20, by rw [k195]; exact fd11_19⟩
theorem q195_24 : pm_cF 195 24 27 36 1 2 := ⟨_, _, _, _, c195_24, rfl, by rw [k195]; exact tg11_198, rfl⟩
theorem q196_16 : pm_cF 196 16 19 174 1 2 := ⟨_, _, _, _, c196_16, rfl, by rw [k196]; exact tg11_134, rfl⟩
theorem g196_20 : pm_gF 196 20 23 11 1 2 := ⟨_, c196_20, by rw [k196]; exact fd11_19⟩
theorem q196_24 : pm_cF 196 24 27 36 1 2 := ⟨_, _, _, _, c196_24, rfl, by rw [k196]; exact tg11_198, rfl⟩
theorem g196_38 : pm_gF 196 38 41 11 1 2 := ⟨_, c196_38, by rw [k196]; exact fd11_19⟩
theorem q196_41 : pm_cF 196 41 44 28 1 1 := ⟨_, _, _, _, c196_41, rfl, by rw [k196]; exact tg11_156, rfl⟩
theorem q196_44 : pm_cF 196 44 47 108 1 1 := ⟨_, _, _, _, c196_44, rfl, by rw [k196]; exact tg11_195, rfl⟩
theorem q196_49 : pm_cF 196 49 52 363 0 2 := ⟨_, _, _, _, c196_49, rfl, by rw [k196]; exact tg11_293, rfl⟩
theorem q197_2 : pm_cF 197 2 5 180 1 2 := ⟨_, _, _, _, c197_2, rfl, by rw [k197]; exact tg11_205, rfl⟩
theorem q197_20 : pm_cF 197 20 23 174 1 2 := ⟨_, _, _, _, c197_20, rfl, by rw [k197]; exact tg11_134, rfl⟩
theorem g197_24 : pm_gF 197 24 27 11 5 2 := ⟨_, c197_24, by rw [k197]; exact fd11_47⟩
theorem g197_28 : pm_gF 197 28 31 11 1 2 := ⟨_, c197_28, by rw [k197]; exact fd11_19⟩
theorem g197_32 : pm_gF 197 32 35 11 9 2 := ⟨_, c197_32, by rw [k197]; exact fd11_75⟩
theorem tg11_296 : pm_tg 11 296 = some (143, 3, 1, false) := by decide +kernel
theorem q197_36 : pm_cF 197 36 39 143 1 4 := ⟨_, _, _, _, c197_36, rfl, by rw [k197]; exact tg11_296, rfl⟩
theorem g197_69 : pm_gF 197 69 72 11 5 2 := ⟨_, c197_69, by rw [k197]; exact fd11_47⟩
theorem tg11_299 : pm_tg 11 299 = some (146, 0, 1, false) := by decide +kernel
theorem q197_72 : pm_cF 197 72 75 146 1 1 := ⟨_, _, _, _, c197_72, rfl, by rw [k197]; exact tg11_299, rfl⟩
theorem g197_77 : pm_gF 197 77 80 11 5 2 := ⟨_, c197_77, by rw [k197]; exact fd11_47⟩
theorem tg11_302 : pm_tg 11 302 = some (147, 0, 1, false) := by decide +kernel
theorem q197_80 : pm_cF 197 80 83 147 1 1 := ⟨_, _, _, _, c197_80, rfl, by rw [k197]; exact tg11_302, rfl⟩
theorem g197_85 : pm_gF 197 85 88 11 5 2 := ⟨_, c197_85, by rw [k197]; exact fd11_47⟩
theorem tg11_305 : pm_tg 11 305 = some (148, 0, 1, false) := by decide +kernel
theorem q197_88 : pm_cF 197 88 91 148 1 1 := ⟨_, _, _, _, c197_88, rfl, by rw [k197]; exact tg11_305, rfl⟩
theorem g197_93 : pm_gF 197 93 96 11 5 2 := ⟨_, c197_93, by rw [k197]; exact fd11_47⟩
theorem tg11_308 : pm_tg 11 308 = some (149, 0, 1, false) := by decide +kernel
theorem q197_96 : pm_cF 197 96 99 149 1 1 := ⟨_, _, _, _, c197_96, rfl, by rw [k197]; exact tg11_308, rfl⟩
theorem q198_2 : pm_cF 198 2 5 180 1 2 := ⟨_, _, _, _, c198_2, rfl, by rw [k198]; exact tg11_205, rfl⟩
theorem q198_20 : pm_cF 198 20 23 174 1 2 := ⟨_, _, _, _, c198_20, rfl, by rw [k198]; exact tg11_134, rfl⟩
theorem g198_24 : pm_gF 198 24 27 11 5 2 := ⟨_, c198_24, by rw [k198]; exact fd11_47⟩
theorem g198_28 : pm_gF 198 28 31 11 1 2 := ⟨_, c198_28, by rw [k198]; exact fd11_19⟩
theorem g198_32 : pm_gF 198 32 35 11 9 2 := ⟨_, c198_32, by rw [k198]; exact fd11_75⟩
theorem q198_36 : pm_cF 198 36 39 143 1 4 := ⟨_, _, _, _, c198_36, rfl, by rw [k198]; exact tg11_296, rfl⟩
theorem g198_40 : pm_gF 198 40 43 11 5 2 := ⟨_, c198_40, by rw [k198]; exact fd11_47⟩
theorem g198_44 : pm_gF 198 44 47 11 9 2 := ⟨_, c198_44, by rw [k198]; exact fd11_75⟩
theorem tg11_311 : pm_tg 11 311 = some (150, 1, 1, false) := by decide +kernel
theorem q198_47 : pm_cF 198 47 50 150 1 2 := ⟨_, _, _, _, c198_47, rfl, by rw [k198]; exact tg11_311, rfl⟩
theorem g198_55 : pm_gF 198 55 58 11 5 2 := ⟨_, c198_55, by rw [k198]; exact fd11_47⟩
theorem tg11_315 : pm_tg 11 315 = some (151, 0, 1, false) := by decide +kernel
theorem q198_58 : pm_cF 198 58 61 151 1 1 := ⟨_, _, _, _, c198_58, rfl, by rw [k198]; exact tg11_315, rfl⟩
theorem g198_65 : pm_gF 198 65 68 11 5 2 := ⟨_, c198_65, by rw [k198]; exact fd11_47⟩
theorem tg11_316 : pm_tg 11 316 = some (152, 0, 1, false) := by decide +kernel
theorem q198_68 : pm_cF 198 68 71 152 1 1 := ⟨_, _, _, _, c198_68, rfl, by rw [k198]; exact tg11_316, rfl⟩
theorem tg11_319 : pm_tg 11 319 = some (200, 1, 0, false) := by decide +kernel
theorem q199_2 : pm_cF 199 2 5 200 0 1 := ⟨_, _, _, _, c199_2, rfl, by rw [k199]; exact tg11_319, rfl⟩
theorem q199_5 : pm_cF 199 5 8 174 1 2 := ⟨_, _, _, _, c199_5, rfl, by rw [k199]; exact tg11_134, rfl⟩
theorem q199_24 : pm_cF 199 24 27 174 1 2 := ⟨_, _, _, _, c199_24, rfl, by rw [k199]; exact tg11_134, rfl⟩
theorem q199_42 : pm_cF 199 42 45 174 1 2 := ⟨_, _, _, _, c199_42, rfl, by rw [k199]; exact tg11_134, rfl⟩
theorem tg11_323 : pm_tg 11 323 = some (201, 2, 0, false) := by decide +kernel
theorem q199_47 : pm_cF 199 47 50 201 0 2 := ⟨_, _, _, _, c199_47, rfl, by rw [k199]; exact tg11_323, rfl⟩
theorem tg11_384 : pm_tg 11 384 = some (202, 2, 0, false) := by decide +kernel
theorem q201_19 : pm_cF 201 19 22 202 0 2 := ⟨_, _, _, _, c201_19, rfl, by rw [k201]; exact tg11_384, rfl⟩
theorem tg11_387 : pm_tg 11 387 = some (203, 2, 0, false) := by decide +kernel
theorem q201_25 : pm_cF 201 25 28 203 0 2 := ⟨_, _, _, _, c201_25, rfl, by rw [k201]; exact tg11_387, rfl⟩
theorem q201_37 : pm_cF 201 37 40 203 0 2 := ⟨_, _, _, _, c201_37, rfl, by rw [k201]; exact tg11_387, rfl⟩
theorem q204_16 : pm_cF 204 16 19 174 1 2 := ⟨_, _, _, _, c204_16, rfl, by rw [k204]; exact tg11_134, rfl⟩
theorem q204_35 : pm_cF 204 35 38 174 1 2 := ⟨_, _, _, _, c204_35, rfl, by rw [k204]; exact tg11_134, rfl⟩
theorem q204_48 : pm_cF 204 48 51 201 0 2 := ⟨_, _, _, _, c204_48, rfl, by rw [k204]; exact tg11_323, rfl⟩
theorem ct11_327 : pm_ct 11 327 = some (.long 16) := by decide +kernel
theorem v204_51 : pm_kF2 204 51 54 (.long 16) := ⟨_, c204_51, by rw [k204]; exact ct11_327⟩
theorem q205_17 : pm_cF 205 17 20 174 1 2 := ⟨_, _, _, _, c205_17, rfl, by rw [k205]; exact tg11_134, rfl⟩
theorem q205_37 : pm_cF 205 37 40 174 1 2 := ⟨_, _, _, _, c205_37, rfl, by rw [k205]; exact tg11_134, rfl⟩
theorem q205_56 : pm_cF 205 56 59 174 1 2 := ⟨_, _, _, _, c205_56, rfl, by rw [k205]; exact tg11_134, rfl⟩
theorem q206_2 : pm_cF 206 2 5 182 1 2 := ⟨_, _, _, _, c206_2, rfl, by rw [k206]; exact tg11_221, rfl⟩
theorem q206_21 : pm_cF 206 21 24 174 1 2 := ⟨_, _, _, _, c206_21, rfl, by rw [k206]; exact tg11_134, rfl⟩
theorem g206_25 : pm_gF 206 25 28 11 1 2 := ⟨_, c206_25, by rw [k206]; exact fd11_19⟩
theorem tg11_329 : pm_tg 11 329 = some (60, 2, 1, false) := by decide +kernel
theorem q206_30 : pm_cF 206 30 33 60 1 3 := ⟨_, _, _, _, c206_30, rfl, by rw [k206]; exact tg11_329, rfl⟩
theorem q207_16 : pm_cF 207 16 19 174 1 2 := ⟨_, _, _, _, c207_16, rfl, by rw [k207]; exact tg11_134, rfl⟩
theorem q207_35 : pm_cF 207 35 38 174 1 2 := ⟨_, _, _, _, c207_35, rfl, by rw [k207]; exact tg11_134, rfl⟩
theorem q207_54 : pm_cF 207 54 57 174 1 2 := ⟨_, _, _, _, c207_54, rfl, by rw [k207]; exact tg11_134, rfl⟩
theorem q207_74 : pm_cF 207 74 77 174 1 2 := ⟨_, _, _, _, c207_74, rfl, by rw [k207]; exact tg11_134, rfl⟩
theorem tg11_332 : pm_tg 11 332 = some (208, 3, 0, false) := by decide +kernel
theorem q207_109 : pm_cF 207 109 112 208 0 3 := ⟨_, _, _, _, c207_109, rfl, by rw [k207]; exact tg11_332, rfl⟩
theorem q207_119 : pm_cF 207 119 122 208 0 3 := ⟨_, _, _, _, c207_119, rfl, by rw [k207]; exact tg11_332, rfl⟩
theorem tg11_335 : pm_tg 11 335 = some (209, 3, 0, false) := by decide +kernel
theorem q207_130 : pm_cF 207 130 133 209 0 3 := ⟨_, _, _, _, c207_130, rfl, by rw [k207]; exact tg11_335, rfl⟩
theorem q207_142 : pm_cF 207 142 145 209 0 3 := ⟨_, _, _, _, c207_142, rfl, by rw [k207]; exact tg11_335, rfl⟩
theorem q209_3 : pm_cF 209 3 6 208 0 3 := ⟨_, _, _, _, c209_3, rfl, by rw [k209]; exact tg11_332, rfl⟩
theorem q209_13 : pm_cF 209 13 16 362 0 2 := ⟨_, _, _, _, c209_13, rfl, by rw [k209]; exact tg11_259, rfl⟩
theorem q209_28 : pm_cF 209 28 31 208 0 3 := ⟨_, _, _, _, c209_28, rfl, by rw [k209]; exact tg11_332, rfl⟩
theorem q209_31 : pm_cF 209 31 34 362 0 2 := ⟨_, _, _, _, c209_31, rfl, by rw [k209]; exact tg11_259, rfl⟩
theorem q210_16 : pm_cF 210 16 19 174 1 2 := ⟨_, _, _, _, c210_16, rfl, by rw [k210]; exact tg11_134, rfl⟩
theorem q210_35 : pm_cF 210 35 38 174 1 2 := ⟨_, _, _, _, c210_35, rfl, by rw [k210]; exact tg11_134, rfl⟩
theorem q210_54 : pm_cF 210 54 57 174 1 2 := ⟨_, _, _, _, c210_54, rfl, by rw [k210]; exact tg11_134, rfl⟩
theorem q210_60 : pm_cF 210 60 63 208 0 3 := ⟨_, _, _, _, c210_60, rfl, by rw [k210]; exact tg11_332, rfl⟩
theorem tg11_338 : pm_tg 11 338 = some (212, 3, 0, false) := by decide +kernel
theorem q211_5 : pm_cF 211 5 8 212 0 3 := ⟨_, _, _, _, c211_5, rfl, by rw [k211]; exact tg11_338, rfl⟩
theorem q211_8 : pm_cF 211 8 11 174 1 2 := ⟨_, _, _, _, c211_8, rfl, by rw [k211]; exact tg11_134, rfl⟩
theorem q211_28 : pm_cF 211 28 31 174 1 2 := ⟨_, _, _, _, c211_28, rfl, by rw [k211]; exact tg11_134, rfl⟩
theorem g211_38 : pm_gF 211 38 41 11 1 2 := ⟨_, c211_38, by rw [k211]; exact fd11_19⟩
theorem q211_43 : pm_cF 211 43 46 54 1 2 := ⟨_, _, _, _, c211_43, rfl, by rw [k211]; exact tg11_253, rfl⟩
theorem g211_48 : pm_gF 211 48 51 11 7 2 := ⟨_, c211_48, by rw [k211]; exact fd11_61⟩
theorem g211_52 : pm_gF 211 52 55 11 1 2 := ⟨_, c211_52, by rw [k211]; exact fd11_19⟩
theorem tg11_342 : pm_tg 11 342 = some (154, 5, 1, false) := by decide +kernel
theorem q211_60 : pm_cF 211 60 63 154 1 6 := ⟨_, _, _, _, c211_60, rfl, by rw [k211]; exact tg11_342, rfl⟩
theorem g211_93 : pm_gF 211 93 96 11 7 2 := ⟨_, c211_93, by rw [k211]; exact fd11_61⟩
theorem tg11_346 : pm_tg 11 346 = some (155, 0, 1, false) := by decide +kernel
theorem q211_96 : pm_cF 211 96 99 155 1 1 := ⟨_, _, _, _, c211_96, rfl, by rw [k211]; exact tg11_346, rfl⟩
theorem g211_101 : pm_gF 211 101 104 11 7 2 := ⟨_, c211_101, by rw [k211]; exact fd11_61⟩
theorem tg11_349 : pm_tg 11 349 = some (156, 0, 1, false) := by decide +kernel
theorem q211_104 : pm_cF 211 104 107 156 1 1 := ⟨_, _, _, _, c211_104, rfl, by rw [k211]; exact tg11_349, rfl⟩
theorem g211_109 : pm_gF 211 109 112 11 7 2 := ⟨_, c211_109, by rw [k211]; exact fd11_61⟩
theorem tg11_352 : pm_tg 11 352 = some (157, 0, 1, false) := by decide +kernel
theorem q211_112 : pm_cF 211 112 115 157 1 1 := ⟨_, _, _, _, c211_112, rfl, by rw [k211]; exact tg11_352, rfl⟩
theorem q213_17 : pm_cF 213 17 20 174 1 2 := ⟨_, _, _, _, c213_17, rfl, by rw [k213]; exact tg11_134, rfl⟩
theorem q213_26 : pm_cF 213 26 29 212 0 3 := ⟨_, _, _, _, c213_26, rfl, by rw [k213]; exact tg11_338, rfl⟩
theorem q213_29 : pm_cF 213 29 32 174 1 2 := ⟨_, _, _, _, c213_29, rfl, by rw [k213]; exact tg11_134, rfl⟩
theorem q213_49 : pm_cF 213 49 52 174 1 2 := ⟨_, _, _, _, c213_49, rfl, by rw [k213]; exact tg11_134, rfl⟩
theorem g213_71 : pm_gF 213 71 74 11 7 2 := ⟨_, c213_71, by rw [k213]; exact fd11_61⟩
theorem g213_75 : pm_gF 213 75 78 11 1 2 := ⟨_, c213_75, by rw [k213]; exact fd11_19⟩
theorem q213_87 : pm_cF 213 87 90 154 1 6 := ⟨_, _, _, _, c213_87, rfl, by rw [k213]; exact tg11_342, rfl⟩
theorem g213_96 : pm_gF 213 96 99 11 7 2 := ⟨_, c213_96, by rw [k213]; exact fd11_61⟩
theorem q213_99 : pm_cF 213 99 102 155 1 1 := ⟨_, _, _, _, c213_99, rfl, by rw [k213]; exact tg11_346, rfl⟩
theorem g213_108 : pm_gF 213 108 111 11 7 2 := ⟨_, c213_108, by rw [k213]; exact fd11_61⟩
theorem q213_111 : pm_cF 213 111 114 155 1 1 := ⟨_, _, _, _, c213_111, rfl, by rw [k213]; exact tg11_346, rfl⟩
theorem q213_114 : pm_cF 213 114 117 363 0 2 := ⟨_, _, _, _, c213_114, rfl, by rw [k213]; exact tg11_293, rfl⟩
theorem g213_122 : pm_gF 213 122 125 11 7 2 := ⟨_, c213_122, by rw [k213]; exact fd11_61⟩
theorem q213_125 : pm_cF 213 125 128 155 1 1 := ⟨_, _, _, _, c213_125, rfl, by rw [k213]; exact tg11_346, rfl⟩
theorem q213_128 : pm_cF 213 128 131 362 0 2 := ⟨_, _, _, _, c213_128, rfl, by rw [k213]; exact tg11_259, rfl⟩
theorem g213_134 : pm_gF 213 134 137 11 7 2 := ⟨_, c213_134, by rw [k213]; exact fd11_61⟩
theorem q213_137 : pm_cF 213 137 140 155 1 1 := ⟨_, _, _, _, c213_137, rfl, by rw [k213]; exact tg11_346, rfl⟩
theorem fd12_3 : pm_fd 12 3 = some (12, 0, 0) := by decide +kernel
theorem g214_1 : pm_gF 214 1 4 12 0 0 := ⟨_, c214_1, by rw [k214]; exact fd12_3⟩
theorem fd12_7 : pm_fd 12 7 = some (12, 1, 2) := by decide +kernel
theorem fd12_17 : pm_fd 12 17 = some (12, 8, 0) := by decide +kernel
theorem p215_13 : pm_pF 215 13 16 12 8 0 := ⟨_, c215_13, by rw [k215]; exact fd12_17, by decide, by decide +kernel⟩
theorem fd12_20 : pm_fd 12 20 = some (12, 9, 2) := by decide +kernel
theorem fd12_23 : pm_fd 12 23 = some (12, 10, 2) := by decide +kernel
theorem fd12_26 : pm_fd 12 26 = some (12, 11, 2) := by decide +kernel
theorem fd12_29 : pm_fd 12 29 = some (12, 12, 2) := by decide +kernel
theorem fd12_32 : pm_fd 12 32 = some (12, 13, 2) := by decide +kernel
theorem fd12_35 : pm_fd 12 35 = some (12, 21, 2) := by decide +kernel
theorem fd12_38 : pm_fd 12 38 = some (12, 22, 2) := by decide +kernel
theorem fd12_41 : pm_fd 12 41 = some (12, 23, 2) := by decide +kernel
theorem fd12_44 : pm_fd 12 44 = some (12, 24, 2) := by decide +kernel
theorem fd12_47 : pm_fd 12 47 = some (12, 25, 2) := by decide +kernel
theorem fd12_50 : pm_fd 12 50 = some (12, 26, 2) := by decide +kernel
theorem fd12_53 : pm_fd 12 53 = some (12, 28, 2) := by decide +kernel
theorem fd12_56 : pm_fd 12 56 = some (12, 29, 2) := by decide +kernel
theorem fd12_59 : pm_fd 12 59 = some (12, 30, 2) := by decide +kernel
theorem fd12_62 : pm_fd 12 62 = some (12, 37, 2) := by decide +kernel
theorem fd12_65 : pm_fd 12 65 = some (12, 38, 2) := by decide +kernel
theorem fd12_68 : pm_fd 12 68 = some (12, 39, 2) := by decide +kernel
theorem fd12_71 : pm_fd 12 71 = some (12, 43, 2) := by decide +kernel
theorem fd12_74 : pm_fd 12 74 = some (12, 44, 2) := by decide +kernel
theorem fd12_77 : pm_fd 12 77 = some (12, 46, 2) := by decide +kernel
theorem fd12_80 : pm_fd 12 80 = some (12, 47, 2) := by decide +kernel
theorem fd12_83 : pm_fd 12 83 = some (12, 48, 2) := by decide +kernel
theorem fd12_86 : pm_fd 12 86 = some (12, 49, 2) := by decide +kernel
theorem fd12_89 : pm_fd 12 89 = some (12, 51, 2) := by decide +kernel
theorem fd12_93 : pm_fd 12 93 = some (12, 52, 2) := by decide +kernel
theorem fd12_96 : pm_fd 12 96 = some (12, 53, 2) := by decide +kernel
theorem fd12_99 : pm_fd 12 99 = some (12, 54, 2) := by decide +kernel
theorem fd12_102 : pm_fd 12 102 = some (12, 57, 2) := by decide +kernel
theorem tg12_105 : pm_tg 12 105 = some (216, 0, 1, false) := by decide +kernel
theorem q215_251 : pm_cF 215 251 254 216 1 1 := ⟨_, _, _, _, c215_251, rfl, by rw [k215]; exact tg12_105, rfl⟩
theorem tg12_108 : pm_tg 12 108 = some (217, 0, 1, false) := by decide +kernel
theorem q215_255 : pm_cF 215 255 258 217 1 1 := ⟨_, _, _, _, c215_255, rfl, by rw [k215]; exact tg12_108, rfl⟩
theorem fd12_157 : pm_fd 12 157 = some (12, 14, 0) := by decide +kernel
theorem p216_2 : pm_pF 216 2 5 12 14 0 := ⟨_, c216_2, by rw [k216]; exact fd12_157, by decide, by decide +kernel⟩
theorem fd12_160 : pm_fd 12 160 = some (12, 15, 0) := by decide +kernel
theorem p216_7 : pm_pF 216 7 10 12 15 0 := ⟨_, c216_7, by rw [k216]; exact fd12_160, by decide, by decide +kernel⟩
theorem fd12_163 : pm_fd 12 163 = some (12, 16, 0) := by decide +kernel
theorem p216_13 : pm_pF 216 13 16 12 16 0 := ⟨_, c216_13, by rw [k216]; exact fd12_163, by decide, by decide +kernel⟩
theorem fd12_166 : pm_fd 12 166 = some (12, 17, 0) := by decide +kernel
theorem p216_19 : pm_pF 216 19 22 12 17 0 := ⟨_, c216_19, by rw [k216]; exact fd12_166, by decide, by decide +kernel⟩
theorem g217_2 : pm_gF 217 2 5 12 14 0 := ⟨_, c217_2, by rw [k217]; exact fd12_157⟩
theorem fd12_169 : pm_fd 12 169 = some (12, 18, 0) := by decide +kernel
theorem p217_5 : pm_pF 217 5 8 12 18 0 := ⟨_, c217_5, by rw [k217]; exact fd12_169, by decide, by decide +kernel⟩
theorem g217_10 : pm_gF 217 10 13 12 15 0 := ⟨_, c217_10, by rw [k217]; exact fd12_160⟩
theorem fd12_172 : pm_fd 12 172 = some (12, 19, 0) := by decide +kernel
theorem p217_13 : pm_pF 217 13 16 12 19 0 := ⟨_, c217_13, by rw [k217]; exact fd12_172, by decide, by decide +kernel⟩
theorem g217_18 : pm_gF 217 18 21 12 17 0 := ⟨_, c217_18, by rw [k217]; exact fd12_166⟩
theorem fd12_175 : pm_fd 12 175 = some (12, 20, 0) := by decide +kernel
theorem p217_21 : pm_pF 217 21 24 12 20 0 := ⟨_, c217_21, by rw [k217]; exact fd12_175, by decide, by decide +kernel⟩
theorem g217_26 : pm_gF 217 26 29 12 10 2 := ⟨_, c217_26, by rw [k217]; exact fd12_23⟩
theorem g217_30 : pm_gF 217 30 33 12 12 2 := ⟨_, c217_30, by rw [k217]; exact fd12_29⟩
theorem tg12_178 : pm_tg 12 178 = some (218, 3, 1, false) := by decide +kernel
theorem q217_35 : pm_cF 217 35 38 218 1 4 := ⟨_, _, _, _, c217_35, rfl, by rw [k217]; exact tg12_178, rfl⟩
theorem g217_40 : pm_gF 217 40 43 12 11 2 := ⟨_, c217_40, by rw [k217]; exact fd12_26⟩
theorem g217_44 : pm_gF 217 44 47 12 13 2 := ⟨_, c217_44, by rw [k217]; exact fd12_32⟩
theorem q217_49 : pm_cF 217 49 52 218 1 4 := ⟨_, _, _, _, c217_49, rfl, by rw [k217]; exact tg12_178, rfl⟩
theorem g217_53 : pm_gF 217 53 56 12 25 2 := ⟨_, c217_53, by rw [k217]; exact fd12_47⟩
theorem g217_60 : pm_gF 217 60 63 12 25 2 := ⟨_, c217_60, by rw [k217]; exact fd12_47⟩
theorem fd12_182 : pm_fd 12 182 = some (12, 45, 0) := by decide +kernel
theorem p217_68 : pm_pF 217 68 71 12 45 0 := ⟨_, c217_68, by rw [k217]; exact fd12_182, by decide, by decide +kernel⟩
theorem fd12_185 : pm_fd 12 185 = some (12, 32, 0) := by decide +kernel
theorem p217_73 : pm_pF 217 73 76 12 32 0 := ⟨_, c217_73, by rw [k217]; exact fd12_185, by decide, by decide +kernel⟩
theorem fd12_188 : pm_fd 12 188 = some (12, 58, 0) := by decide +kernel
theorem p217_78 : pm_pF 217 78 81 12 58 0 := ⟨_, c217_78, by rw [k217]; exact fd12_188, by decide, by decide +kernel⟩
theorem fd12_191 : pm_fd 12 191 = some (12, 33, 0) := by decide +kernel
theorem p217_83 : pm_pF 217 83 86 12 33 0 := ⟨_, c217_83, by rw [k217]; exact fd12_191, by decide, by decide +kernel⟩
theorem g217_95 : pm_gF 217 95 98 12 37 2 := ⟨_, c217_95, by rw [k217]; exact fd12_62⟩
theorem g217_116 : pm_gF 217 116 119 12 37 2 := ⟨_, c217_116, by rw [k217]; exact fd12_62⟩
theorem g217_126 : pm_gF 217 126 129 12 37 2 := ⟨_, c217_126, by rw [k217]; exact fd12_62⟩
theorem g217_136 : pm_gF 217 136 139 12 37 2 := ⟨_, c217_136, by rw [k217]; exact fd12_62⟩
theorem g217_145 : pm_gF 217 145 148 12 18 0 := ⟨_, c217_145, by rw [k217]; exact fd12_169⟩
theorem g217_152 : pm_gF 217 152 155 12 12 2 := ⟨_, c217_152, by rw [k217]; exact fd12_29⟩
theorem g217_173 : pm_gF 217 173 176 12 37 2 := ⟨_, c217_173, by rw [k217]; exact fd12_62⟩
theorem g217_179 : pm_gF 217 179 182 12 16 0 := ⟨_, c217_179, by rw [k217]; exact fd12_163⟩
theorem p219_2 : pm_pF 219 2 5 12 0 0 := ⟨_, c219_2, by rw [k219]; exact fd12_3, by decide, by decide +kernel⟩
theorem fd12_111 : pm_fd 12 111 = some (12, 2, 0) := by decide +kernel
theorem g219_6 : pm_gF 219 6 9 12 2 0 := ⟨_, c219_6, by rw [k219]; exact fd12_111⟩
theorem g219_79 : pm_gF 219 79 82 12 9 2 := ⟨_, c219_79, by rw [k219]; exact fd12_20⟩
theorem g219_83 : pm_gF 219 83 86 12 2 0 := ⟨_, c219_83, by rw [k219]; exact fd12_111⟩
theorem g219_106 : pm_gF 219 106 109 12 2 0 := ⟨_, c219_106, by rw [k219]; exact fd12_111⟩
theorem p219_111 : pm_pF 219 111 114 12 2 0 := ⟨_, c219_111, by rw [k219]; exact fd12_111, by decide, by decide +kernel⟩
theorem g219_121 : pm_gF 219 121 124 12 2 0 := ⟨_, c219_121, by rw [k219]; exact fd12_111⟩
theorem p220_2 : pm_pF 220 2 5 12 0 0 := ⟨_, c220_2, by rw [k220]; exact fd12_3, by decide, by decide +kernel⟩
theorem g220_6 : pm_gF 220 6 9 12 8 0 := ⟨_, c220_6, by rw [k220]; exact fd12_17⟩
theorem p221_2 : pm_pF 221 2 5 12 0 0 := ⟨_, c221_2, by rw [k221]; exact fd12_3, by decide, by decide +kernel⟩
theorem g221_12 : pm_gF 221 12 15 12 2 0 := ⟨_, c221_12, by rw [k221]; exact fd12_111⟩
theorem tg12_207 : pm_tg 12 207 = some (222, 3, 1, false) := by decide +kernel
theorem q221_25 : pm_cF 221 25 28 222 1 4 := ⟨_, _, _, _, c221_25, rfl, by rw [k221]; exact tg12_207, rfl⟩
theorem tg12_211 : pm_tg 12 211 = some (223, 1, 1, false) := by decide +kernel
theorem q221_35 : pm_cF 221 35 38 223 1 2 := ⟨_, _, _, _, c221_35, rfl, by rw [k221]; exact tg12_211, rfl⟩
theorem q221_39 : pm_cF 221 39 42 216 1 1 := ⟨_, _, _, _, c221_39, rfl, by rw [k221]; exact tg12_105, rfl⟩
theorem tg12_143 : pm_tg 12 143 = some (224, 0, 1, false) := by decide +kernel
theorem q221_45 : pm_cF 221 45 48 224 1 1 := ⟨_, _, _, _, c221_45, rfl, by rw [k221]; exact tg12_143, rfl⟩
theorem tg12_215 : pm_tg 12 215 = some (225, 0, 1, false) := by decide +kernel
theorem q221_52 : pm_cF 221 52 55 225 1 1 := ⟨_, _, _, _, c221_52, rfl, by rw [k221]; exact tg12_215, rfl⟩
theorem ct12_218 : pm_ct 12 218 = some (.retAddr 8) := by decide +kernel
theorem v221_59 : pm_kF 221 59 61 (.retAddr 8) := ⟨_, _, c221_59, Or.inl rfl, by rw [k221]; exact ct12_218⟩
theorem tg12_220 : pm_tg 12 220 = some (227, 1, 1, false) := by decide +kernel
theorem q221_61 : pm_cF 221 61 64 227 1 2 := ⟨_, _, _, _, c221_61, rfl, by rw [k221]; exact tg12_220, rfl⟩
theorem tg12_224 : pm_tg 12 224 = some (229, 0, 1, false) := by decide +kernel
theorem q221_66 : pm_cF 221 66 69 229 1 1 := ⟨_, _, _, _, c221_66, rfl, by rw [k221]; exact tg12_224, rfl⟩
theorem tg12_227 : pm_tg 12 227 = some (230, 1, 0, false) := by decide +kernel
theorem q221_77 : pm_cF 221 77 80 230 0 1 := ⟨_, _, _, _, c221_77, rfl, by rw [k221]; exact tg12_227, rfl⟩
theorem fd12_120 : pm_fd 12 120 = some (12, 4, 0) := by decide +kernel
theorem g221_86 : pm_gF 221 86 89 12 4 0 := ⟨_, c221_86, by rw [k221]; exact fd12_120⟩
theorem tg12_150 : pm_tg 12 150 = some (232, 2, 1, false) := by decide +kernel
theorem q221_89 : pm_cF 221 89 92 232 1 3 := ⟨_, _, _, _, c221_89, rfl, by rw [k221]; exact tg12_150, rfl⟩
theorem ct12_194 : pm_ct 12 194 = some (.retAddr 4) := by decide +kernel
theorem v221_103 : pm_kF 221 103 105 (.retAddr 4) := ⟨_, _, c221_103, Or.inl rfl, by rw [k221]; exact ct12_194⟩
theorem tg12_195 : pm_tg 12 195 = some (231, 1, 0, false) := by decide +kernel
theorem q221_105 : pm_cF 221 105 108 231 0 1 := ⟨_, _, _, _, c221_105, rfl, by rw [k221]; exact tg12_195, rfl⟩
theorem g221_112 : pm_gF 221 112 115 12 14 0 := ⟨_, c221_112, by rw [k221]; exact fd12_157⟩
theorem ct12_203 : pm_ct 12 203 = some (.retAddr 6) := by decide +kernel
theorem v221_122 : pm_kF 221 122 124 (.retAddr 6) := ⟨_, _, c221_122, Or.inl rfl, by rw [k221]; exact ct12_203⟩
theorem q221_124 : pm_cF 221 124 127 231 0 1 := ⟨_, _, _, _, c221_124, rfl, by rw [k221]; exact tg12_195, rfl⟩
theorem g221_131 : pm_gF 221 131 134 12 15 0 := ⟨_, c221_131, by rw [k221]; exact fd12_160⟩
theorem g221_141 : pm_gF 221 141 144 12 4 0 := ⟨_, c221_141, by rw [k221]; exact fd12_120⟩
theorem q221_144 : pm_cF 221 144 147 232 1 3 := ⟨_, _, _, _, c221_144, rfl, by rw [k221]; exact tg12_150, rfl⟩
theorem q221_148 : pm_cF 221 148 151 224 1 1 := ⟨_, _, _, _, c221_148, rfl, by rw [k221]; exact tg12_143, rfl⟩
theorem g221_163 : pm_gF 221 163 166 12 4 0 := ⟨_, c221_163, by rw [k221]; exact fd12_120⟩
theorem p221_169 : pm_pF 221 169 172 12 4 0 := ⟨_, c221_169, by rw [k221]; exact fd12_120, by decide, by decide +kernel⟩
theorem tg12_230 : pm_tg 12 230 = some (233, 0, 1, false) := by decide +kernel
theorem q221_176 : pm_cF 221 176 179 233 1 1 := ⟨_, _, _, _, c221_176, rfl, by rw [k221]; exact tg12_230, rfl⟩
theorem tg12_233 : pm_tg 12 233 = some (234, 0, 1, false) := by decide +kernel
theorem q221_184 : pm_cF 221 184 187 234 1 1 := ⟨_, _, _, _, c221_184, rfl, by rw [k221]; exact tg12_233, rfl⟩
theorem tg12_236 : pm_tg 12 236 = some (237, 1, 1, false) := by decide +kernel
theorem q221_193 : pm_cF 221 193 196 237 1 2 := ⟨_, _, _, _, c221_193, rfl, by rw [k221]; exact tg12_236, rfl⟩
theorem tg12_239 : pm_tg 12 239 = some (238, 1, 1, false) := by decide +kernel
theorem q221_199 : pm_cF 221 199 202 238 1 2 := ⟨_, _, _, _, c221_199, rfl, by rw [k221]; exact tg12_239, rfl⟩
theorem g221_210 : pm_gF 221 210 213 12 14 0 := ⟨_, c221_210, by rw [k221]; exact fd12_157⟩
theorem tg12_242 : pm_tg 12 242 = some (239, 1, 1, false) := by decide +kernel
theorem q221_213 : pm_cF 221 213 216 239 1 2 := ⟨_, _, _, _, c221_213, rfl, by rw [k221]; exact tg12_242, rfl⟩
theorem fd12_114 : pm_fd 12 114 = some (12, 5, 0) := by decide +kernel
theorem g221_218 : pm_gF 221 218 221 12 5 0 := ⟨_, c221_218, by rw [k221]; exact fd12_114⟩
theorem q221_226 : pm_cF 221 226 229 217 1 1 := ⟨_, _, _, _, c221_226, rfl, by rw [k221]; exact tg12_108, rfl⟩
theorem g222_5 : pm_gF 222 5 8 12 0 0 := ⟨_, c222_5, by rw [k222]; exact fd12_3⟩
theorem p222_13 : pm_pF 222 13 16 12 0 0 := ⟨_, c222_13, by rw [k222]; exact fd12_3, by decide, by decide +kernel⟩
theorem g222_17 : pm_gF 222 17 20 12 1 2 := ⟨_, c222_17, by rw [k222]; exact fd12_7⟩
theorem g222_27 : pm_gF 222 27 30 12 0 0 := ⟨_, c222_27, by rw [k222]; exact fd12_3⟩
theorem p223_2 : pm_pF 223 2 5 12 2 0 := ⟨_, c223_2, by rw [k223]; exact fd12_111, by decide, by decide +kernel⟩
theorem p223_7 : pm_pF 223 7 10 12 8 0 := ⟨_, c223_7, by rw [k223]; exact fd12_17, by decide, by decide +kernel⟩
theorem fd12_123 : pm_fd 12 123 = some (12, 3, 0) := by decide +kernel
theorem p223_12 : pm_pF 223 12 15 12 3 0 := ⟨_, c223_12, by rw [k223]; exact fd12_123, by decide, by decide +kernel⟩
theorem p223_17 : pm_pF 223 17 20 12 4 0 := ⟨_, c223_17, by rw [k223]; exact fd12_120, by decide, by decide +kernel⟩
theorem p223_22 : pm_pF 223 22 25 12 5 0 := ⟨_, c223_22, by rw [k223]; exact fd12_114, by decide, by decide +kernel⟩
theorem fd12_154 : pm_fd 12 154 = some (12, 7, 0) := by decide +kernel
theorem p223_27 : pm_pF 223 27 30 12 7 0 := ⟨_, c223_27, by rw [k223]; exact fd12_154, by decide, by decide +kernel⟩
theorem g224_1 : pm_gF 224 1 4 12 5 0 := ⟨_, c224_1, by rw [k224]; exact fd12_114⟩
theorem tg12_126 : pm_tg 12 126 = some (226, 0, 1, false) := by decide +kernel
theorem q225_1 : pm_cF 225 1 4 226 1 1 := ⟨_, _, _, _, c225_1, rfl, by rw [k225]; exact tg12_126, rfl⟩
theorem g225_6 : pm_gF 225 6 9 12 4 0 := ⟨_, c225_6, by rw [k225]; exact fd12_120⟩
theorem g225_10 : pm_gF 225 10 13 12 3 0 := ⟨_, c225_10, by rw [k225]; exact fd12_123⟩
theorem g226_1 : pm_gF 226 1 4 12 4 0 := ⟨_, c226_1, by rw [k226]; exact fd12_120⟩
theorem g226_5 : pm_gF 226 5 8 12 3 0 := ⟨_, c226_5, by rw [k226]; exact fd12_123⟩
theorem g226_12 : pm_gF 226 12 15 12 9 2 := ⟨_, c226_12, by rw [k226]; exact fd12_20⟩
theorem g226_16 : pm_gF 226 16 19 12 4 0 := ⟨_, c226_16, by rw [k226]; exact fd12_120⟩
theorem g226_27 : pm_gF 226 27 30 12 4 0 := ⟨_, c226_27, by rw [k226]; exact fd12_120⟩
theorem p226_32 : pm_pF 226 32 35 12 4 0 := ⟨_, c226_32, by rw [k226]; exact fd12_120, by decide, by decide +kernel⟩
theorem g226_39 : pm_gF 226 39 42 12 4 0 := ⟨_, c226_39, by rw [k226]; exact fd12_120⟩
theorem g226_43 : pm_gF 226 43 46 12 3 0 := ⟨_, c226_43, by rw [k226]; exact fd12_123⟩
theorem g226_50 : pm_gF 226 50 53 12 9 2 := ⟨_, c226_50, by rw [k226]; exact fd12_20⟩
theorem g226_54 : pm_gF 226 54 57 12 4 0 := ⟨_, c226_54, by rw [k226]; exact fd12_120⟩
theorem q227_1 : pm_cF 227 1 4 226 1 1 := ⟨_, _, _, _, c227_1, rfl, by rw [k227]; exact tg12_126, rfl⟩
theorem tg12_134 : pm_tg 12 134 = some (366, 0, 1, false) := by decide +kernel
theorem q227_9 : pm_cF 227 9 12 366 1 1 := ⟨_, _, _, _, c227_9, rfl, by rw [k227]; exact tg12_134, rfl⟩
theorem g227_16 : pm_gF 227 16 19 12 4 0 := ⟨_, c227_16, by rw [k227]; exact fd12_120⟩
theorem g227_22 : pm_gF 227 22 25 12 3 0 := ⟨_, c227_22, by rw [k227]; exact fd12_123⟩
theorem g227_29 : pm_gF 227 29 32 12 9 2 := ⟨_, c227_29, by rw [k227]; exact fd12_20⟩
theorem g227_33 : pm_gF 227 33 36 12 4 0 := ⟨_, c227_33, by rw [k227]; exact fd12_120⟩
theorem tg12_139 : pm_tg 12 139 = some (368, 1, 1, false) := by decide +kernel
theorem q227_41 : pm_cF 227 41 44 368 1 2 := ⟨_, _, _, _, c227_41, rfl, by rw [k227]; exact tg12_139, rfl⟩
theorem g227_56 : pm_gF 227 56 59 12 4 0 := ⟨_, c227_56, by rw [k227]; exact fd12_120⟩
theorem q227_60 : pm_cF 227 60 63 366 1 1 := ⟨_, _, _, _, c227_60, rfl, by rw [k227]; exact tg12_134, rfl⟩
theorem g227_65 : pm_gF 227 65 68 12 3 0 := ⟨_, c227_65, by rw [k227]; exact fd12_123⟩
theorem g227_72 : pm_gF 227 72 75 12 9 2 := ⟨_, c227_72, by rw [k227]; exact fd12_20⟩
theorem g227_76 : pm_gF 227 76 79 12 4 0 := ⟨_, c227_76, by rw [k227]; exact fd12_120⟩
theorem q227_80 : pm_cF 227 80 83 366 1 1 := ⟨_, _, _, _, c227_80, rfl, by rw [k227]; exact tg12_134, rfl⟩
theorem tg12_130 : pm_tg 12 130 = some (228, 1, 0, false) := by decide +kernel
theorem q227_85 : pm_cF 227 85 88 228 0 1 := ⟨_, _, _, _, c227_85, rfl, by rw [k227]; exact tg12_130, rfl⟩
theorem q229_1 : pm_cF 229 1 4 226 1 1 := ⟨_, _, _, _, c229_1, rfl, by rw [k229]; exact tg12_126, rfl⟩
theorem g229_10 : pm_gF 229 10 13 12 4 0 := ⟨_, c229_10, by rw [k229]; exact fd12_120⟩
theorem g229_16 : pm_gF 229 16 19 12 3 0 := ⟨_, c229_16, by rw [k229]; exact fd12_123⟩
theorem g229_23 : pm_gF 229 23 26 12 9 2 := ⟨_, c229_23, by rw [k229]; exact fd12_20⟩
theorem q229_28 : pm_cF 229 28 31 228 0 1 := ⟨_, _, _, _, c229_28, rfl, by rw [k229]; exact tg12_130, rfl⟩
theorem g229_44 : pm_gF 229 44 47 12 9 2 := ⟨_, c229_44, by rw [k229]; exact fd12_20⟩
theorem v230_1 : pm_kF 230 1 3 (.retAddr 4) := ⟨_, _, c230_1, Or.inl rfl, by rw [k230]; exact ct12_194⟩
theorem q230_3 : pm_cF 230 3 6 231 0 1 := ⟨_, _, _, _, c230_3, rfl, by rw [k230]; exact tg12_195, rfl⟩
theorem v230_10 : pm_kF 230 10 12 (.retAddr 6) := ⟨_, _, c230_10, Or.inl rfl, by rw [k230]; exact ct12_203⟩
theorem q230_12 : pm_cF 230 12 15 231 0 1 := ⟨_, _, _, _, c230_12, rfl, by rw [k230]; exact tg12_195, rfl⟩
theorem ct12_204 : pm_ct 12 204 = some (.retAddr 10) := by decide +kernel
theorem v230_19 : pm_kF 230 19 21 (.retAddr 10) := ⟨_, _, c230_19, Or.inl rfl, by rw [k230]; exact ct12_204⟩
theorem q230_21 : pm_cF 230 21 24 231 0 1 := ⟨_, _, _, _, c230_21, rfl, by rw [k230]; exact tg12_195, rfl⟩
theorem ct12_206 : pm_ct 12 206 = some (.retAddr 12) := by decide +kernel
theorem v230_28 : pm_kF 230 28 30 (.retAddr 12) := ⟨_, _, c230_28, Or.inl rfl, by rw [k230]; exact ct12_206⟩
theorem q230_30 : pm_cF 230 30 33 231 0 1 := ⟨_, _, _, _, c230_30, rfl, by rw [k230]; exact tg12_195, rfl⟩
theorem q231_6 : pm_cF 231 6 9 366 1 1 := ⟨_, _, _, _, c231_6, rfl, by rw [k231]; exact tg12_134, rfl⟩
theorem q231_17 : pm_cF 231 17 20 368 1 2 := ⟨_, _, _, _, c231_17, rfl, by rw [k231]; exact tg12_139, rfl⟩
theorem g232_1 : pm_gF 232 1 4 12 5 0 := ⟨_, c232_1, by rw [k232]; exact fd12_114⟩
theorem p232_11 : pm_pF 232 11 14 12 5 0 := ⟨_, c232_11, by rw [k232]; exact fd12_114, by decide, by decide +kernel⟩
theorem fd12_117 : pm_fd 12 117 = some (12, 6, 0) := by decide +kernel
theorem p232_16 : pm_pF 232 16 19 12 6 0 := ⟨_, c232_16, by rw [k232]; exact fd12_117, by decide, by decide +kernel⟩
theorem g233_1 : pm_gF 233 1 4 12 4 0 := ⟨_, c233_1, by rw [k233]; exact fd12_120⟩
theorem g233_5 : pm_gF 233 5 8 12 3 0 := ⟨_, c233_5, by rw [k233]; exact fd12_123⟩
theorem g233_12 : pm_gF 233 12 15 12 9 2 := ⟨_, c233_12, by rw [k233]; exact fd12_20⟩
theorem g233_16 : pm_gF 233 16 19 12 4 0 := ⟨_, c233_16, by rw [k233]; exact fd12_120⟩
theorem q233_20 : pm_cF 233 20 23 228 0 1 := ⟨_, _, _, _, c233_20, rfl, by rw [k233]; exact tg12_130, rfl⟩
theorem g233_28 : pm_gF 233 28 31 12 4 0 := ⟨_, c233_28, by rw [k233]; exact fd12_120⟩
theorem p233_33 : pm_pF 233 33 36 12 4 0 := ⟨_, c233_33, by rw [k233]; exact fd12_120, by decide, by decide +kernel⟩
theorem g234_3 : pm_gF 234 3 6 12 14 0 := ⟨_, c234_3, by rw [k234]; exact fd12_157⟩
theorem tg12_199 : pm_tg 12 199 = some (235, 2, 1, false) := by decide +kernel
theorem q234_8 : pm_cF 234 8 11 235 1 3 := ⟨_, _, _, _, c234_8, rfl, by rw [k234]; exact tg12_199, rfl⟩
theorem q234_17 : pm_cF 234 17 20 235 1 3 := ⟨_, _, _, _, c234_17, rfl, by rw [k234]; exact tg12_199, rfl⟩
theorem q234_22 : pm_cF 234 22 25 224 1 1 := ⟨_, _, _, _, c234_22, rfl, by rw [k234]; exact tg12_143, rfl⟩
theorem g234_29 : pm_gF 234 29 32 12 10 2 := ⟨_, c234_29, by rw [k234]; exact fd12_23⟩
theorem q235_1 : pm_cF 235 1 4 224 1 1 := ⟨_, _, _, _, c235_1, rfl, by rw [k235]; exact tg12_143, rfl⟩
theorem q235_10 : pm_cF 235 10 13 226 1 1 := ⟨_, _, _, _, c235_10, rfl, by rw [k235]; exact tg12_126, rfl⟩
theorem g235_15 : pm_gF 235 15 18 12 4 0 := ⟨_, c235_15, by rw [k235]; exact fd12_120⟩
theorem tg12_147 : pm_tg 12 147 = some (236, 1, 0, false) := by decide +kernel
theorem q235_24 : pm_cF 235 24 27 236 0 1 := ⟨_, _, _, _, c235_24, rfl, by rw [k235]; exact tg12_147, rfl⟩
theorem g235_33 : pm_gF 235 33 36 12 4 0 := ⟨_, c235_33, by rw [k235]; exact fd12_120⟩
theorem q235_36 : pm_cF 235 36 39 232 1 3 := ⟨_, _, _, _, c235_36, rfl, by rw [k235]; exact tg12_150, rfl⟩
theorem g235_42 : pm_gF 235 42 45 12 4 0 := ⟨_, c235_42, by rw [k235]; exact fd12_120⟩
theorem g235_46 : pm_gF 235 46 49 12 3 0 := ⟨_, c235_46, by rw [k235]; exact fd12_123⟩
theorem g235_53 : pm_gF 235 53 56 12 9 2 := ⟨_, c235_53, by rw [k235]; exact fd12_20⟩
theorem g235_57 : pm_gF 235 57 60 12 4 0 := ⟨_, c235_57, by rw [k235]; exact fd12_120⟩
theorem q235_61 : pm_cF 235 61 64 236 0 1 := ⟨_, _, _, _, c235_61, rfl, by rw [k235]; exact tg12_147, rfl⟩
theorem g235_87 : pm_gF 235 87 90 12 9 2 := ⟨_, c235_87, by rw [k235]; exact fd12_20⟩
theorem g235_91 : pm_gF 235 91 94 12 4 0 := ⟨_, c235_91, by rw [k235]; exact fd12_120⟩
theorem g235_103 : pm_gF 235 103 106 12 4 0 := ⟨_, c235_103, by rw [k235]; exact fd12_120⟩
theorem p235_108 : pm_pF 235 108 111 12 4 0 := ⟨_, c235_108, by rw [k235]; exact fd12_120, by decide, by decide +kernel⟩
theorem q235_130 : pm_cF 235 130 133 232 1 3 := ⟨_, _, _, _, c235_130, rfl, by rw [k235]; exact tg12_150, rfl⟩
theorem v237_1 : pm_kF 237 1 3 (.retAddr 4) := ⟨_, _, c237_1, Or.inl rfl, by rw [k237]; exact ct12_194⟩
theorem q237_3 : pm_cF 237 3 6 231 0 1 := ⟨_, _, _, _, c237_3, rfl, by rw [k237]; exact tg12_195, rfl⟩
theorem g237_11 : pm_gF 237 11 14 12 14 0 := ⟨_, c237_11, by rw [k237]; exact fd12_157⟩
theorem g237_17 : pm_gF 237 17 20 12 10 2 := ⟨_, c237_17, by rw [k237]; exact fd12_23⟩
theorem q237_27 : pm_cF 237 27 30 235 1 3 := ⟨_, _, _, _, c237_27, rfl, by rw [k237]; exact tg12_199, rfl⟩
theorem g237_32 : pm_gF 237 32 35 12 10 2 := ⟨_, c237_32, by rw [k237]; exact fd12_23⟩
theorem q237_41 : pm_cF 237 41 44 235 1 3 := ⟨_, _, _, _, c237_41, rfl, by rw [k237]; exact tg12_199, rfl⟩
theorem g237_46 : pm_gF 237 46 49 12 10 2 := ⟨_, c237_46, by rw [k237]; exact fd12_23⟩
theorem q237_55 : pm_cF 237 55 58 235 1 3 := ⟨_, _, _, _, c237_55, rfl, by rw [k237]; exact tg12_199, rfl⟩
theorem g237_60 : pm_gF 237 60 63 12 10 2 := ⟨_, c237_60, by rw [k237]; exact fd12_23⟩
theorem g237_70 : pm_gF 237 70 73 12 14 0 := ⟨_, c237_70, by rw [k237]; exact fd12_157⟩
theorem p237_75 : pm_pF 237 75 78 12 14 0 := ⟨_, c237_75, by rw [k237]; exact fd12_157, by decide, by decide +kernel⟩
theorem v237_82 : pm_kF 237 82 84 (.retAddr 6) := ⟨_, _, c237_82, Or.inl rfl, by rw [k237]; exact ct12_203⟩
theorem q237_84 : pm_cF 237 84 87 231 0 1 := ⟨_, _, _, _, c237_84, rfl, by rw [k237]; exact tg12_195, rfl⟩
theorem g237_92 : pm_gF 237 92 95 12 15 0 := ⟨_, c237_92, by rw [k237]; exact fd12_160⟩
theorem g237_98 : pm_gF 237 98 101 12 11 2 := ⟨_, c237_98, by rw [k237]; exact fd12_26⟩
theorem q237_105 : pm_cF 237 105 108 235 1 3 := ⟨_, _, _, _, c237_105, rfl, by rw [k237]; exact tg12_199, rfl⟩
theorem g237_110 : pm_gF 237 110 113 12 11 2 := ⟨_, c237_110, by rw [k237]; exact fd12_26⟩
theorem q237_120 : pm_cF 237 120 123 235 1 3 := ⟨_, _, _, _, c237_120, rfl, by rw [k237]; exact tg12_199, rfl⟩
theorem g237_125 : pm_gF 237 125 128 12 11 2 := ⟨_, c237_125, by rw [k237]; exact fd12_26⟩
theorem q237_134 : pm_cF 237 134 137 235 1 3 := ⟨_, _, _, _, c237_134, rfl, by rw [k237]; exact tg12_199, rfl⟩
theorem g237_140 : pm_gF 237 140 143 12 15 0 := ⟨_, c237_140, by rw [k237]; exact fd12_160⟩
theorem p237_145 : pm_pF 237 145 148 12 15 0 := ⟨_, c237_145, by rw [k237]; exact fd12_160, by decide, by decide +kernel⟩
theorem v237_152 : pm_kF 237 152 154 (.retAddr 10) := ⟨_, _, c237_152, Or.inl rfl, by rw [k237]; exact ct12_204⟩
theorem q237_154 : pm_cF 237 154 157 231 0 1 := ⟨_, _, _, _, c237_154, rfl, by rw [k237]; exact tg12_195, rfl⟩
theorem q237_166 : pm_cF 237 166 169 235 1 3 := ⟨_, _, _, _, c237_166, rfl, by rw [k237]; exact tg12_199, rfl⟩
theorem p237_169 : pm_pF 237 169 172 12 16 0 := ⟨_, c237_169, by rw [k237]; exact fd12_163, by decide, by decide +kernel⟩
theorem q237_180 : pm_cF 237 180 183 235 1 3 := ⟨_, _, _, _, c237_180, rfl, by rw [k237]; exact tg12_199, rfl⟩
theorem p237_183 : pm_pF 237 183 186 12 17 0 := ⟨_, c237_183, by rw [k237]; exact fd12_166, by decide, by decide +kernel⟩
theorem q238_1 : pm_cF 238 1 4 224 1 1 := ⟨_, _, _, _, c238_1, rfl, by rw [k238]; exact tg12_143, rfl⟩
theorem q238_8 : pm_cF 238 8 11 226 1 1 := ⟨_, _, _, _, c238_8, rfl, by rw [k238]; exact tg12_126, rfl⟩
theorem g238_18 : pm_gF 238 18 21 12 4 0 := ⟨_, c238_18, by rw [k238]; exact fd12_120⟩
theorem q238_21 : pm_cF 238 21 24 232 1 3 := ⟨_, _, _, _, c238_21, rfl, by rw [k238]; exact tg12_150, rfl⟩
theorem q238_25 : pm_cF 238 25 28 224 1 1 := ⟨_, _, _, _, c238_25, rfl, by rw [k238]; exact tg12_143, rfl⟩
theorem g238_33 : pm_gF 238 33 36 12 4 0 := ⟨_, c238_33, by rw [k238]; exact fd12_120⟩
theorem p238_38 : pm_pF 238 38 41 12 4 0 := ⟨_, c238_38, by rw [k238]; exact fd12_120, by decide, by decide +kernel⟩
theorem g239_2 : pm_gF 239 2 5 12 5 0 := ⟨_, c239_2, by rw [k239]; exact fd12_114⟩
theorem p239_5 : pm_pF 239 5 8 12 8 0 := ⟨_, c239_5, by rw [k239]; exact fd12_17, by decide, by decide +kernel⟩
theorem q239_9 : pm_cF 239 9 12 224 1 1 := ⟨_, _, _, _, c239_9, rfl, by rw [k239]; exact tg12_143, rfl⟩
theorem g239_20 : pm_gF 239 20 23 12 6 0 := ⟨_, c239_20, by rw [k239]; exact fd12_117⟩
theorem p240_2 : pm_pF 240 2 5 12 0 0 := ⟨_, c240_2, by rw [k240]; exact fd12_3, by decide, by decide +kernel⟩
theorem tg12_290 : pm_tg 12 290 = some (241, 3, 0, false) := by decide +kernel
theorem q240_9 : pm_cF 240 9 12 241 0 3 := ⟨_, _, _, _, c240_9, rfl, by rw [k240]; exact tg12_290, rfl⟩
theorem g240_21 : pm_gF 240 21 24 12 2 0 := ⟨_, c240_21, by rw [k240]; exact fd12_111⟩
theorem q240_41 : pm_cF 240 41 44 222 1 4 := ⟨_, _, _, _, c240_41, rfl, by rw [k240]; exact tg12_207, rfl⟩
theorem q240_51 : pm_cF 240 51 54 223 1 2 := ⟨_, _, _, _, c240_51, rfl, by rw [k240]; exact tg12_211, rfl⟩
theorem fd12_246 : pm_fd 12 246 = some (12, 27, 0) := by decide +kernel
theorem p240_56 : pm_pF 240 56 59 12 27 0 := ⟨_, c240_56, by rw [k240]; exact fd12_246, by decide, by decide +kernel⟩
theorem tg12_261 : pm_tg 12 261 = some (242, 0, 1, false) := by decide +kernel
theorem q240_60 : pm_cF 240 60 63 242 1 1 := ⟨_, _, _, _, c240_60, rfl, by rw [k240]; exact tg12_261, rfl⟩
theorem q240_64 : pm_cF 240 64 67 224 1 1 := ⟨_, _, _, _, c240_64, rfl, by rw [k240]; exact tg12_143, rfl⟩
theorem q240_71 : pm_cF 240 71 74 225 1 1 := ⟨_, _, _, _, c240_71, rfl, by rw [k240]; exact tg12_215, rfl⟩
theorem g240_80 : pm_gF 240 80 83 12 4 0 := ⟨_, c240_80, by rw [k240]; exact fd12_120⟩
theorem q240_83 : pm_cF 240 83 86 232 1 3 := ⟨_, _, _, _, c240_83, rfl, by rw [k240]; exact tg12_150, rfl⟩
theorem q240_88 : pm_cF 240 88 91 239 1 2 := ⟨_, _, _, _, c240_88, rfl, by rw [k240]; exact tg12_242, rfl⟩
theorem g240_93 : pm_gF 240 93 96 12 5 0 := ⟨_, c240_93, by rw [k240]; exact fd12_114⟩
theorem g240_103 : pm_gF 240 103 106 12 25 2 := ⟨_, c240_103, by rw [k240]; exact fd12_47⟩
theorem g240_108 : pm_gF 240 108 111 12 27 0 := ⟨_, c240_108, by rw [k240]; exact fd12_246⟩
theorem g240_118 : pm_gF 240 118 121 12 27 0 := ⟨_, c240_118, by rw [k240]; exact fd12_246⟩
theorem g240_125 : pm_gF 240 125 128 12 23 2 := ⟨_, c240_125, by rw [k240]; exact fd12_41⟩
theorem g240_137 : pm_gF 240 137 140 12 21 2 := ⟨_, c240_137, by rw [k240]; exact fd12_35⟩
theorem g240_145 : pm_gF 240 145 148 12 24 2 := ⟨_, c240_145, by rw [k240]; exact fd12_44⟩
theorem g240_157 : pm_gF 240 157 160 12 22 2 := ⟨_, c240_157, by rw [k240]; exact fd12_38⟩
theorem tg12_249 : pm_tg 12 249 = some (243, 0, 1, false) := by decide +kernel
theorem q242_1 : pm_cF 242 1 4 243 1 1 := ⟨_, _, _, _, c242_1, rfl, by rw [k242]; exact tg12_249, rfl⟩
theorem q242_5 : pm_cF 242 5 8 224 1 1 := ⟨_, _, _, _, c242_5, rfl, by rw [k242]; exact tg12_143, rfl⟩
theorem q242_12 : pm_cF 242 12 15 226 1 1 := ⟨_, _, _, _, c242_12, rfl, by rw [k242]; exact tg12_126, rfl⟩
theorem q242_21 : pm_cF 242 21 24 226 1 1 := ⟨_, _, _, _, c242_21, rfl, by rw [k242]; exact tg12_126, rfl⟩
theorem q242_30 : pm_cF 242 30 33 226 1 1 := ⟨_, _, _, _, c242_30, rfl, by rw [k242]; exact tg12_126, rfl⟩
theorem g242_46 : pm_gF 242 46 49 12 4 0 := ⟨_, c242_46, by rw [k242]; exact fd12_120⟩
theorem p242_51 : pm_pF 242 51 54 12 4 0 := ⟨_, c242_51, by rw [k242]; exact fd12_120, by decide, by decide +kernel⟩
theorem q242_55 : pm_cF 242 55 58 243 1 1 := ⟨_, _, _, _, c242_55, rfl, by rw [k242]; exact tg12_249, rfl⟩
theorem tg12_252 : pm_tg 12 252 = some (246, 2, 1, false) := by decide +kernel
theorem q242_61 : pm_cF 242 61 64 246 1 3 := ⟨_, _, _, _, c242_61, rfl, by rw [k242]; exact tg12_252, rfl⟩
theorem tg12_255 : pm_tg 12 255 = some (244, 0, 1, false) := by decide +kernel
theorem q243_1 : pm_cF 243 1 4 244 1 1 := ⟨_, _, _, _, c243_1, rfl, by rw [k243]; exact tg12_255, rfl⟩
theorem q243_5 : pm_cF 243 5 8 224 1 1 := ⟨_, _, _, _, c243_5, rfl, by rw [k243]; exact tg12_143, rfl⟩
theorem q243_12 : pm_cF 243 12 15 226 1 1 := ⟨_, _, _, _, c243_12, rfl, by rw [k243]; exact tg12_126, rfl⟩
theorem q243_21 : pm_cF 243 21 24 226 1 1 := ⟨_, _, _, _, c243_21, rfl, by rw [k243]; exact tg12_126, rfl⟩
theorem q243_30 : pm_cF 243 30 33 226 1 1 := ⟨_, _, _, _, c243_30, rfl, by rw [k243]; exact tg12_126, rfl⟩
theorem g243_46 : pm_gF 243 46 49 12 4 0 := ⟨_, c243_46, by rw [k243]; exact fd12_120⟩
theorem p243_51 : pm_pF 243 51 54 12 4 0 := ⟨_, c243_51, by rw [k243]; exact fd12_120, by decide, by decide +kernel⟩
theorem q243_55 : pm_cF 243 55 58 244 1 1 := ⟨_, _, _, _, c243_55, rfl, by rw [k243]; exact tg12_255, rfl⟩
theorem q243_61 : pm_cF 243 61 64 246 1 3 := ⟨_, _, _, _, c243_61, rfl, by rw [k243]; exact tg12_252, rfl⟩
theorem q244_1 : pm_cF 244 1 4 224 1 1 := ⟨_, _, _, _, c244_1, rfl, by rw [k244]; exact tg12_143, rfl⟩
theorem q244_9 : pm_cF 244 9 12 226 1 1 := ⟨_, _, _, _, c244_9, rfl, by rw [k244]; exact tg12_126, rfl⟩
theorem tg12_258 : pm_tg 12 258 = some (245, 1, 1, false) := by decide +kernel
theorem q244_19 : pm_cF 244 19 22 245 1 2 := ⟨_, _, _, _, c244_19, rfl, by rw [k244]; exact tg12_258, rfl⟩
theorem q244_23 : pm_cF 244 23 26 242 1 1 := ⟨_, _, _, _, c244_23, rfl, by rw [k244]; exact tg12_261, rfl⟩
theorem q244_29 : pm_cF 244 29 32 238 1 2 := ⟨_, _, _, _, c244_29, rfl, by rw [k244]; exact tg12_239, rfl⟩
theorem g244_34 : pm_gF 244 34 37 12 7 0 := ⟨_, c244_34, by rw [k244]; exact fd12_154⟩
theorem p244_39 : pm_pF 244 39 42 12 7 0 := ⟨_, c244_39, by rw [k244]; exact fd12_154, by decide, by decide +kernel⟩
theorem q244_46 : pm_cF 244 46 49 226 1 1 := ⟨_, _, _, _, c244_46, rfl, by rw [k244]; exact tg12_126, rfl⟩
theorem q244_49 : pm_cF 244 49 52 236 0 1 := ⟨_, _, _, _, c244_49, rfl, by rw [k244]; exact tg12_147, rfl⟩
theorem q244_62 : pm_cF 244 62 65 235 1 3 := ⟨_, _, _, _, c244_62, rfl, by rw [k244]; exact tg12_199, rfl⟩
theorem q244_65 : pm_cF 244 65 68 246 1 3 := ⟨_, _, _, _, c244_65, rfl, by rw [k244]; exact tg12_252, rfl⟩
theorem q244_72 : pm_cF 244 72 75 229 1 1 := ⟨_, _, _, _, c244_72, rfl, by rw [k244]; exact tg12_224, rfl⟩
theorem ct12_280 : pm_ct 12 280 = some (.retAddr 14) := by decide +kernel
theorem v244_75 : pm_kF 244 75 78 (.retAddr 14) := ⟨_, _, c244_75, Or.inr rfl, by rw [k244]; exact ct12_280⟩
theorem q244_78 : pm_cF 244 78 81 231 0 1 := ⟨_, _, _, _, c244_78, rfl, by rw [k244]; exact tg12_195, rfl⟩
theorem tg12_282 : pm_tg 12 282 = some (247, 2, 1, false) := by decide +kernel
theorem q244_88 : pm_cF 244 88 91 247 1 3 := ⟨_, _, _, _, c244_88, rfl, by rw [k244]; exact tg12_282, rfl⟩
theorem q244_95 : pm_cF 244 95 98 229 1 1 := ⟨_, _, _, _, c244_95, rfl, by rw [k244]; exact tg12_224, rfl⟩
theorem ct12_285 : pm_ct 12 285 = some (.retAddr 16) := by decide +kernel
theorem v244_98 : pm_kF 244 98 101 (.retAddr 16) := ⟨_, _, c244_98, Or.inr rfl, by rw [k244]; exact ct12_285⟩
theorem q244_101 : pm_cF 244 101 104 231 0 1 := ⟨_, _, _, _, c244_101, rfl, by rw [k244]; exact tg12_195, rfl⟩
theorem q244_111 : pm_cF 244 111 114 247 1 3 := ⟨_, _, _, _, c244_111, rfl, by rw [k244]; exact tg12_282, rfl⟩
theorem tg12_287 : pm_tg 12 287 = some (248, 0, 1, false) := by decide +kernel
theorem q244_118 : pm_cF 244 118 121 248 1 1 := ⟨_, _, _, _, c244_118, rfl, by rw [k244]; exact tg12_287, rfl⟩
theorem g244_130 : pm_gF 244 130 133 12 4 0 := ⟨_, c244_130, by rw [k244]; exact fd12_120⟩
theorem q244_133 : pm_cF 244 133 136 232 1 3 := ⟨_, _, _, _, c244_133, rfl, by rw [k244]; exact tg12_150, rfl⟩
theorem q244_137 : pm_cF 244 137 140 224 1 1 := ⟨_, _, _, _, c244_137, rfl, by rw [k244]; exact tg12_143, rfl⟩
theorem q244_145 : pm_cF 244 145 148 233 1 1 := ⟨_, _, _, _, c244_145, rfl, by rw [k244]; exact tg12_230, rfl⟩
theorem q244_151 : pm_cF 244 151 154 246 1 3 := ⟨_, _, _, _, c244_151, rfl, by rw [k244]; exact tg12_252, rfl⟩
theorem q245_1 : pm_cF 245 1 4 224 1 1 := ⟨_, _, _, _, c245_1, rfl, by rw [k245]; exact tg12_143, rfl⟩
theorem g245_8 : pm_gF 245 8 11 12 7 0 := ⟨_, c245_8, by rw [k245]; exact fd12_154⟩
theorem g245_19 : pm_gF 245 19 22 12 4 0 := ⟨_, c245_19, by rw [k245]; exact fd12_120⟩
theorem q245_22 : pm_cF 245 22 25 232 1 3 := ⟨_, _, _, _, c245_22, rfl, by rw [k245]; exact tg12_150, rfl⟩
theorem q245_26 : pm_cF 245 26 29 224 1 1 := ⟨_, _, _, _, c245_26, rfl, by rw [k245]; exact tg12_143, rfl⟩
theorem g245_34 : pm_gF 245 34 37 12 4 0 := ⟨_, c245_34, by rw [k245]; exact fd12_120⟩
theorem p245_39 : pm_pF 245 39 42 12 4 0 := ⟨_, c245_39, by rw [k245]; exact fd12_120, by decide, by decide +kernel⟩
theorem g245_44 : pm_gF 245 44 47 12 7 0 := ⟨_, c245_44, by rw [k245]; exact fd12_154⟩
theorem p245_49 : pm_pF 245 49 52 12 7 0 := ⟨_, c245_49, by rw [k245]; exact fd12_154, by decide, by decide +kernel⟩
theorem q246_1 : pm_cF 246 1 4 224 1 1 := ⟨_, _, _, _, c246_1, rfl, by rw [k246]; exact tg12_143, rfl⟩
theorem g246_9 : pm_gF 246 9 12 12 21 2 := ⟨_, c246_9, by rw [k246]; exact fd12_35⟩
theorem g246_13 : pm_gF 246 13 16 12 27 0 := ⟨_, c246_13, by rw [k246]; exact fd12_246⟩
theorem g246_19 : pm_gF 246 19 22 12 22 2 := ⟨_, c246_19, by rw [k246]; exact fd12_38⟩
theorem g246_23 : pm_gF 246 23 26 12 27 0 := ⟨_, c246_23, by rw [k246]; exact fd12_246⟩
theorem g246_30 : pm_gF 246 30 33 12 27 0 := ⟨_, c246_30, by rw [k246]; exact fd12_246⟩
theorem p246_35 : pm_pF 246 35 38 12 27 0 := ⟨_, c246_35, by rw [k246]; exact fd12_246, by decide, by decide +kernel⟩
theorem q247_2 : pm_cF 247 2 5 245 1 2 := ⟨_, _, _, _, c247_2, rfl, by rw [k247]; exact tg12_258, rfl⟩
theorem q247_8 : pm_cF 247 8 11 238 1 2 := ⟨_, _, _, _, c247_8, rfl, by rw [k247]; exact tg12_239, rfl⟩
theorem q247_12 : pm_cF 247 12 15 242 1 1 := ⟨_, _, _, _, c247_12, rfl, by rw [k247]; exact tg12_261, rfl⟩
theorem q247_18 : pm_cF 247 18 21 238 1 2 := ⟨_, _, _, _, c247_18, rfl, by rw [k247]; exact tg12_239, rfl⟩
theorem q247_22 : pm_cF 247 22 25 242 1 1 := ⟨_, _, _, _, c247_22, rfl, by rw [k247]; exact tg12_261, rfl⟩
theorem q247_28 : pm_cF 247 28 31 238 1 2 := ⟨_, _, _, _, c247_28, rfl, by rw [k247]; exact tg12_239, rfl⟩
theorem g247_33 : pm_gF 247 33 36 12 7 0 := ⟨_, c247_33, by rw [k247]; exact fd12_154⟩
theorem p247_38 : pm_pF 247 38 41 12 7 0 := ⟨_, c247_38, by rw [k247]; exact fd12_154, by decide, by decide +kernel⟩
theorem q247_44 : pm_cF 247 44 47 246 1 3 := ⟨_, _, _, _, c247_44, rfl, by rw [k247]; exact tg12_252, rfl⟩
theorem q248_1 : pm_cF 248 1 4 229 1 1 := ⟨_, _, _, _, c248_1, rfl, by rw [k248]; exact tg12_224, rfl⟩
theorem ct12_264 : pm_ct 12 264 = some (.retAddr 18) := by decide +kernel
theorem v248_6 : pm_kF 248 6 9 (.retAddr 18) := ⟨_, _, c248_6, Or.inr rfl, by rw [k248]; exact ct12_264⟩
theorem q248_9 : pm_cF 248 9 12 231 0 1 := ⟨_, _, _, _, c248_9, rfl, by rw [k248]; exact tg12_195, rfl⟩
theorem ct12_266 : pm_ct 12 266 = some (.retAddr 20) := by decide +kernel
theorem v248_20 : pm_kF 248 20 23 (.retAddr 20) := ⟨_, _, c248_20, Or.inr rfl, by rw [k248]; exact ct12_266⟩
theorem q248_23 : pm_cF 248 23 26 231 0 1 := ⟨_, _, _, _, c248_23, rfl, by rw [k248]; exact tg12_195, rfl⟩
theorem ct12_268 : pm_ct 12 268 = some (.retAddr 22) := by decide +kernel
theorem v248_34 : pm_kF 248 34 37 (.retAddr 22) := ⟨_, _, c248_34, Or.inr rfl, by rw [k248]; exact ct12_268⟩
theorem q248_37 : pm_cF 248 37 40 231 0 1 := ⟨_, _, _, _, c248_37, rfl, by rw [k248]; exact tg12_195, rfl⟩
theorem ct12_270 : pm_ct 12 270 = some (.retAddr 24) := by decide +kernel
theorem v248_48 : pm_kF 248 48 51 (.retAddr 24) := ⟨_, _, c248_48, Or.inr rfl, by rw [k248]; exact ct12_270⟩
theorem q248_51 : pm_cF 248 51 54 231 0 1 := ⟨_, _, _, _, c248_51, rfl, by rw [k248]; exact tg12_195, rfl⟩
theorem ct12_272 : pm_ct 12 272 = some (.retAddr 26) := by decide +kernel
theorem v248_62 : pm_kF 248 62 65 (.retAddr 26) := ⟨_, _, c248_62, Or.inr rfl, by rw [k248]; exact ct12_272⟩
theorem q248_65 : pm_cF 248 65 68 231 0 1 := ⟨_, _, _, _, c248_65, rfl, by rw [k248]; exact tg12_195, rfl⟩
theorem ct12_274 : pm_ct 12 274 = some (.retAddr 28) := by decide +kernel
theorem v248_76 : pm_kF 248 76 79 (.retAddr 28) := ⟨_, _, c248_76, Or.inr rfl, by rw [k248]; exact ct12_274⟩
theorem q248_79 : pm_cF 248 79 82 231 0 1 := ⟨_, _, _, _, c248_79, rfl, by rw [k248]; exact tg12_195, rfl⟩
theorem ct12_276 : pm_ct 12 276 = some (.retAddr 30) := by decide +kernel
theorem v248_90 : pm_kF 248 90 93 (.retAddr 30) := ⟨_, _, c248_90, Or.inr rfl, by rw [k248]; exact ct12_276⟩
theorem q248_93 : pm_cF 248 93 96 231 0 1 := ⟨_, _, _, _, c248_93, rfl, by rw [k248]; exact tg12_195, rfl⟩
theorem ct12_278 : pm_ct 12 278 = some (.retAddr 32) := by decide +kernel
theorem v248_105 : pm_kF 248 105 108 (.retAddr 32) := ⟨_, _, c248_105, Or.inr rfl, by rw [k248]; exact ct12_278⟩
theorem q248_108 : pm_cF 248 108 111 231 0 1 := ⟨_, _, _, _, c248_108, rfl, by rw [k248]; exact tg12_195, rfl⟩
theorem p249_2 : pm_pF 249 2 5 12 0 0 := ⟨_, c249_2, by rw [k249]; exact fd12_3, by decide, by decide +kernel⟩
theorem g249_12 : pm_gF 249 12 15 12 2 0 := ⟨_, c249_12, by rw [k249]; exact fd12_111⟩
theorem q249_32 : pm_cF 249 32 35 222 1 4 := ⟨_, _, _, _, c249_32, rfl, by rw [k249]; exact tg12_207, rfl⟩
theorem q249_42 : pm_cF 249 42 45 223 1 2 := ⟨_, _, _, _, c249_42, rfl, by rw [k249]; exact tg12_211, rfl⟩
theorem g249_46 : pm_gF 249 46 49 12 32 0 := ⟨_, c249_46, by rw [k249]; exact fd12_185⟩
theorem q249_56 : pm_cF 249 56 59 239 1 2 := ⟨_, _, _, _, c249_56, rfl, by rw [k249]; exact tg12_242, rfl⟩
theorem fd12_301 : pm_fd 12 301 = some (12, 31, 0) := by decide +kernel
theorem p249_65 : pm_pF 249 65 68 12 31 0 := ⟨_, c249_65, by rw [k249]; exact fd12_301, by decide, by decide +kernel⟩
theorem q249_69 : pm_cF 249 69 72 224 1 1 := ⟨_, _, _, _, c249_69, rfl, by rw [k249]; exact tg12_143, rfl⟩
theorem q249_76 : pm_cF 249 76 79 225 1 1 := ⟨_, _, _, _, c249_76, rfl, by rw [k249]; exact tg12_215, rfl⟩
theorem tg12_327 : pm_tg 12 327 = some (250, 0, 1, false) := by decide +kernel
theorem q249_83 : pm_cF 249 83 86 250 1 1 := ⟨_, _, _, _, c249_83, rfl, by rw [k249]; exact tg12_327, rfl⟩
theorem q249_91 : pm_cF 249 91 94 239 1 2 := ⟨_, _, _, _, c249_91, rfl, by rw [k249]; exact tg12_242, rfl⟩
theorem g249_96 : pm_gF 249 96 99 12 5 0 := ⟨_, c249_96, by rw [k249]; exact fd12_114⟩
theorem g249_107 : pm_gF 249 107 110 12 29 2 := ⟨_, c249_107, by rw [k249]; exact fd12_56⟩
theorem g249_111 : pm_gF 249 111 114 12 30 2 := ⟨_, c249_111, by rw [k249]; exact fd12_59⟩
theorem g249_115 : pm_gF 249 115 118 12 31 0 := ⟨_, c249_115, by rw [k249]; exact fd12_301⟩
theorem q249_118 : pm_cF 249 118 121 218 1 4 := ⟨_, _, _, _, c249_118, rfl, by rw [k249]; exact tg12_178, rfl⟩
theorem g249_130 : pm_gF 249 130 133 12 39 2 := ⟨_, c249_130, by rw [k249]; exact fd12_68⟩
theorem g249_136 : pm_gF 249 136 139 12 32 0 := ⟨_, c249_136, by rw [k249]; exact fd12_185⟩
theorem g249_143 : pm_gF 249 143 146 12 37 2 := ⟨_, c249_143, by rw [k249]; exact fd12_62⟩
theorem g249_157 : pm_gF 249 157 160 12 32 0 := ⟨_, c249_157, by rw [k249]; exact fd12_185⟩
theorem p249_162 : pm_pF 249 162 165 12 32 0 := ⟨_, c249_162, by rw [k249]; exact fd12_185, by decide, by decide +kernel⟩
theorem tg12_330 : pm_tg 12 330 = some (253, 0, 1, false) := by decide +kernel
theorem q249_166 : pm_cF 249 166 169 253 1 1 := ⟨_, _, _, _, c249_166, rfl, by rw [k249]; exact tg12_330, rfl⟩
theorem fd12_333 : pm_fd 12 333 = some (12, 34, 0) := by decide +kernel
theorem p249_171 : pm_pF 249 171 174 12 34 0 := ⟨_, c249_171, by rw [k249]; exact fd12_333, by decide, by decide +kernel⟩
theorem fd12_336 : pm_fd 12 336 = some (12, 35, 0) := by decide +kernel
theorem p249_176 : pm_pF 249 176 179 12 35 0 := ⟨_, c249_176, by rw [k249]; exact fd12_336, by decide, by decide +kernel⟩
theorem fd12_339 : pm_fd 12 339 = some (12, 36, 0) := by decide +kernel
theorem p249_181 : pm_pF 249 181 184 12 36 0 := ⟨_, c249_181, by rw [k249]; exact fd12_339, by decide, by decide +kernel⟩
theorem g249_187 : pm_gF 249 187 190 12 31 0 := ⟨_, c249_187, by rw [k249]; exact fd12_301⟩
theorem tg12_342 : pm_tg 12 342 = some (254, 2, 1, false) := by decide +kernel
theorem q249_190 : pm_cF 249 190 193 254 1 3 := ⟨_, _, _, _, c249_190, rfl, by rw [k249]; exact tg12_342, rfl⟩
theorem g249_195 : pm_gF 249 195 198 12 38 2 := ⟨_, c249_195, by rw [k249]; exact fd12_65⟩
theorem g249_199 : pm_gF 249 199 202 12 37 2 := ⟨_, c249_199, by rw [k249]; exact fd12_62⟩
theorem q249_204 : pm_cF 249 204 207 218 1 4 := ⟨_, _, _, _, c249_204, rfl, by rw [k249]; exact tg12_178, rfl⟩
theorem g249_209 : pm_gF 249 209 212 12 36 0 := ⟨_, c249_209, by rw [k249]; exact fd12_339⟩
theorem p249_212 : pm_pF 249 212 215 12 33 0 := ⟨_, c249_212, by rw [k249]; exact fd12_191, by decide, by decide +kernel⟩
theorem g249_216 : pm_gF 249 216 219 12 35 0 := ⟨_, c249_216, by rw [k249]; exact fd12_336⟩
theorem q250_1 : pm_cF 250 1 4 229 1 1 := ⟨_, _, _, _, c250_1, rfl, by rw [k250]; exact tg12_224, rfl⟩
theorem ct12_304 : pm_ct 12 304 = some (.retAddr 34) := by decide +kernel
theorem v250_6 : pm_kF 250 6 9 (.retAddr 34) := ⟨_, _, c250_6, Or.inr rfl, by rw [k250]; exact ct12_304⟩
theorem q250_9 : pm_cF 250 9 12 231 0 1 := ⟨_, _, _, _, c250_9, rfl, by rw [k250]; exact tg12_195, rfl⟩
theorem v250_16 : pm_kF 250 16 19 (.retAddr 32) := ⟨_, _, c250_16, Or.inr rfl, by rw [k250]; exact ct12_278⟩
theorem q250_19 : pm_cF 250 19 22 231 0 1 := ⟨_, _, _, _, c250_19, rfl, by rw [k250]; exact tg12_195, rfl⟩
theorem q250_26 : pm_cF 250 26 29 233 1 1 := ⟨_, _, _, _, c250_26, rfl, by rw [k250]; exact tg12_230, rfl⟩
theorem v250_31 : pm_kF 250 31 34 (.retAddr 34) := ⟨_, _, c250_31, Or.inr rfl, by rw [k250]; exact ct12_304⟩
theorem q250_34 : pm_cF 250 34 37 231 0 1 := ⟨_, _, _, _, c250_34, rfl, by rw [k250]; exact tg12_195, rfl⟩
theorem tg12_306 : pm_tg 12 306 = some (251, 3, 1, false) := by decide +kernel
theorem q250_48 : pm_cF 250 48 51 251 1 4 := ⟨_, _, _, _, c250_48, rfl, by rw [k250]; exact tg12_306, rfl⟩
theorem ct12_310 : pm_ct 12 310 = some (.retAddr 36) := by decide +kernel
theorem v250_55 : pm_kF 250 55 58 (.retAddr 36) := ⟨_, _, c250_55, Or.inr rfl, by rw [k250]; exact ct12_310⟩
theorem q250_58 : pm_cF 250 58 61 231 0 1 := ⟨_, _, _, _, c250_58, rfl, by rw [k250]; exact tg12_195, rfl⟩
theorem q250_65 : pm_cF 250 65 68 233 1 1 := ⟨_, _, _, _, c250_65, rfl, by rw [k250]; exact tg12_230, rfl⟩
theorem tg12_312 : pm_tg 12 312 = some (252, 0, 1, false) := by decide +kernel
theorem q250_69 : pm_cF 250 69 72 252 1 1 := ⟨_, _, _, _, c250_69, rfl, by rw [k250]; exact tg12_312, rfl⟩
theorem g250_79 : pm_gF 250 79 82 12 19 0 := ⟨_, c250_79, by rw [k250]; exact fd12_172⟩
theorem q250_84 : pm_cF 250 84 87 235 1 3 := ⟨_, _, _, _, c250_84, rfl, by rw [k250]; exact tg12_199, rfl⟩
theorem q250_87 : pm_cF 250 87 90 251 1 4 := ⟨_, _, _, _, c250_87, rfl, by rw [k250]; exact tg12_306, rfl⟩
theorem ct12_315 : pm_ct 12 315 = some (.retAddr 38) := by decide +kernel
theorem v250_94 : pm_kF 250 94 97 (.retAddr 38) := ⟨_, _, c250_94, Or.inr rfl, by rw [k250]; exact ct12_315⟩
theorem q250_97 : pm_cF 250 97 100 231 0 1 := ⟨_, _, _, _, c250_97, rfl, by rw [k250]; exact tg12_195, rfl⟩
theorem q250_104 : pm_cF 250 104 107 233 1 1 := ⟨_, _, _, _, c250_104, rfl, by rw [k250]; exact tg12_230, rfl⟩
theorem q250_108 : pm_cF 250 108 111 252 1 1 := ⟨_, _, _, _, c250_108, rfl, by rw [k250]; exact tg12_312, rfl⟩
theorem q250_119 : pm_cF 250 119 122 235 1 3 := ⟨_, _, _, _, c250_119, rfl, by rw [k250]; exact tg12_199, rfl⟩
theorem q250_122 : pm_cF 250 122 125 251 1 4 := ⟨_, _, _, _, c250_122, rfl, by rw [k250]; exact tg12_306, rfl⟩
theorem ct12_317 : pm_ct 12 317 = some (.retAddr 40) := by decide +kernel
theorem v250_129 : pm_kF 250 129 132 (.retAddr 40) := ⟨_, _, c250_129, Or.inr rfl, by rw [k250]; exact ct12_317⟩
theorem q250_132 : pm_cF 250 132 135 231 0 1 := ⟨_, _, _, _, c250_132, rfl, by rw [k250]; exact tg12_195, rfl⟩
theorem ct12_319 : pm_ct 12 319 = some (.retAddr 42) := by decide +kernel
theorem v250_139 : pm_kF 250 139 142 (.retAddr 42) := ⟨_, _, c250_139, Or.inr rfl, by rw [k250]; exact ct12_319⟩
theorem q250_142 : pm_cF 250 142 145 231 0 1 := ⟨_, _, _, _, c250_142, rfl, by rw [k250]; exact tg12_195, rfl⟩
theorem ct12_321 : pm_ct 12 321 = some (.retAddr 44) := by decide +kernel
theorem v250_149 : pm_kF 250 149 152 (.retAddr 44) := ⟨_, _, c250_149, Or.inr rfl, by rw [k250]; exact ct12_321⟩
theorem q250_152 : pm_cF 250 152 155 231 0 1 := ⟨_, _, _, _, c250_152, rfl, by rw [k250]; exact tg12_195, rfl⟩
theorem ct12_323 : pm_ct 12 323 = some (.retAddr 46) := by decide +kernel
theorem v250_159 : pm_kF 250 159 162 (.retAddr 46) := ⟨_, _, c250_159, Or.inr rfl, by rw [k250]; exact ct12_323⟩
theorem q250_162 : pm_cF 250 162 165 231 0 1 := ⟨_, _, _, _, c250_162, rfl, by rw [k250]; exact tg12_195, rfl⟩
theorem q250_169 : pm_cF 250 169 172 233 1 1 := ⟨_, _, _, _, c250_169, rfl, by rw [k250]; exact tg12_230, rfl⟩
theorem v250_174 : pm_kF 250 174 177 (.retAddr 40) := ⟨_, _, c250_174, Or.inr rfl, by rw [k250]; exact ct12_317⟩
theorem q250_177 : pm_cF 250 177 180 231 0 1 := ⟨_, _, _, _, c250_177, rfl, by rw [k250]; exact tg12_195, rfl⟩
theorem v250_188 : pm_kF 250 188 191 (.retAddr 42) := ⟨_, _, c250_188, Or.inr rfl, by rw [k250]; exact ct12_319⟩
theorem q250_191 : pm_cF 250 191 194 231 0 1 := ⟨_, _, _, _, c250_191, rfl, by rw [k250]; exact tg12_195, rfl⟩
theorem v250_202 : pm_kF 250 202 205 (.retAddr 44) := ⟨_, _, c250_202, Or.inr rfl, by rw [k250]; exact ct12_321⟩
theorem q250_205 : pm_cF 250 205 208 231 0 1 := ⟨_, _, _, _, c250_205, rfl, by rw [k250]; exact tg12_195, rfl⟩
theorem q250_218 : pm_cF 250 218 221 252 1 1 := ⟨_, _, _, _, c250_218, rfl, by rw [k250]; exact tg12_312, rfl⟩
theorem q250_222 : pm_cF 250 222 225 251 1 4 := ⟨_, _, _, _, c250_222, rfl, by rw [k250]; exact tg12_306, rfl⟩
theorem ct12_325 : pm_ct 12 325 = some (.retAddr 48) := by decide +kernel
theorem v250_229 : pm_kF 250 229 232 (.retAddr 48) := ⟨_, _, c250_229, Or.inr rfl, by rw [k250]; exact ct12_325⟩
theorem q250_232 : pm_cF 250 232 235 231 0 1 := ⟨_, _, _, _, c250_232, rfl, by rw [k250]; exact tg12_195, rfl⟩
theorem q250_240 : pm_cF 250 240 243 245 1 2 := ⟨_, _, _, _, c250_240, rfl, by rw [k250]; exact tg12_258, rfl⟩
theorem q250_247 : pm_cF 250 247 250 235 1 3 := ⟨_, _, _, _, c250_247, rfl, by rw [k250]; exact tg12_199, rfl⟩
theorem q250_254 : pm_cF 250 254 257 238 1 2 := ⟨_, _, _, _, c250_254, rfl, by rw [k250]; exact tg12_239, rfl⟩
theorem g250_258 : pm_gF 250 258 261 12 31 0 := ⟨_, c250_258, by rw [k250]; exact fd12_301⟩
theorem q250_267 : pm_cF 250 267 270 251 1 4 := ⟨_, _, _, _, c250_267, rfl, by rw [k250]; exact tg12_306, rfl⟩
theorem q250_271 : pm_cF 250 271 274 224 1 1 := ⟨_, _, _, _, c250_271, rfl, by rw [k250]; exact tg12_143, rfl⟩
theorem q250_278 : pm_cF 250 278 281 226 1 1 := ⟨_, _, _, _, c250_278, rfl, by rw [k250]; exact tg12_126, rfl⟩
theorem q250_287 : pm_cF 250 287 290 250 1 1 := ⟨_, _, _, _, c250_287, rfl, by rw [k250]; exact tg12_327, rfl⟩
theorem q250_296 : pm_cF 250 296 299 238 1 2 := ⟨_, _, _, _, c250_296, rfl, by rw [k250]; exact tg12_239, rfl⟩
theorem g250_301 : pm_gF 250 301 304 12 7 0 := ⟨_, c250_301, by rw [k250]; exact fd12_154⟩
theorem p250_306 : pm_pF 250 306 309 12 7 0 := ⟨_, c250_306, by rw [k250]; exact fd12_154, by decide, by decide +kernel⟩
theorem q250_310 : pm_cF 250 310 313 224 1 1 := ⟨_, _, _, _, c250_310, rfl, by rw [k250]; exact tg12_143, rfl⟩
theorem g250_317 : pm_gF 250 317 320 12 29 2 := ⟨_, c250_317, by rw [k250]; exact fd12_56⟩
theorem g250_324 : pm_gF 250 324 327 12 31 0 := ⟨_, c250_324, by rw [k250]; exact fd12_301⟩
theorem g250_334 : pm_gF 250 334 337 12 4 0 := ⟨_, c250_334, by rw [k250]; exact fd12_120⟩
theorem q250_337 : pm_cF 250 337 340 232 1 3 := ⟨_, _, _, _, c250_337, rfl, by rw [k250]; exact tg12_150, rfl⟩
theorem q250_343 : pm_cF 250 343 346 238 1 2 := ⟨_, _, _, _, c250_343, rfl, by rw [k250]; exact tg12_239, rfl⟩
theorem q251_1 : pm_cF 251 1 4 224 1 1 := ⟨_, _, _, _, c251_1, rfl, by rw [k251]; exact tg12_143, rfl⟩
theorem g251_9 : pm_gF 251 9 12 12 29 2 := ⟨_, c251_9, by rw [k251]; exact fd12_56⟩
theorem g251_13 : pm_gF 251 13 16 12 31 0 := ⟨_, c251_13, by rw [k251]; exact fd12_301⟩
theorem g251_19 : pm_gF 251 19 22 12 29 2 := ⟨_, c251_19, by rw [k251]; exact fd12_56⟩
theorem g251_23 : pm_gF 251 23 26 12 31 0 := ⟨_, c251_23, by rw [k251]; exact fd12_301⟩
theorem g251_31 : pm_gF 251 31 34 12 29 2 := ⟨_, c251_31, by rw [k251]; exact fd12_56⟩
theorem g251_35 : pm_gF 251 35 38 12 31 0 := ⟨_, c251_35, by rw [k251]; exact fd12_301⟩
theorem g251_44 : pm_gF 251 44 47 12 31 0 := ⟨_, c251_44, by rw [k251]; exact fd12_301⟩
theorem p251_49 : pm_pF 251 49 52 12 31 0 := ⟨_, c251_49, by rw [k251]; exact fd12_301, by decide, by decide +kernel⟩
theorem g252_3 : pm_gF 252 3 6 12 18 0 := ⟨_, c252_3, by rw [k252]; exact fd12_169⟩
theorem q252_8 : pm_cF 252 8 11 235 1 3 := ⟨_, _, _, _, c252_8, rfl, by rw [k252]; exact tg12_199, rfl⟩
theorem g253_2 : pm_gF 253 2 5 12 37 2 := ⟨_, c253_2, by rw [k253]; exact fd12_62⟩
theorem g253_6 : pm_gF 253 6 9 12 38 2 := ⟨_, c253_6, by rw [k253]; exact fd12_65⟩
theorem q253_11 : pm_cF 253 11 14 218 1 4 := ⟨_, _, _, _, c253_11, rfl, by rw [k253]; exact tg12_178, rfl⟩
theorem fd12_348 : pm_fd 12 348 = some (12, 40, 0) := by decide +kernel
theorem p253_16 : pm_pF 253 16 19 12 40 0 := ⟨_, c253_16, by rw [k253]; exact fd12_348, by decide, by decide +kernel⟩
theorem fd12_351 : pm_fd 12 351 = some (12, 41, 0) := by decide +kernel
theorem p253_21 : pm_pF 253 21 24 12 41 0 := ⟨_, c253_21, by rw [k253]; exact fd12_351, by decide, by decide +kernel⟩
theorem fd12_354 : pm_fd 12 354 = some (12, 42, 0) := by decide +kernel
theorem p253_26 : pm_pF 253 26 29 12 42 0 := ⟨_, c253_26, by rw [k253]; exact fd12_354, by decide, by decide +kernel⟩
theorem g254_8 : pm_gF 254 8 11 12 34 0 := ⟨_, c254_8, by rw [k254]; exact fd12_333⟩
theorem g254_19 : pm_gF 254 19 22 12 34 0 := ⟨_, c254_19, by rw [k254]; exact fd12_333⟩
theorem p254_24 : pm_pF 254 24 27 12 34 0 := ⟨_, c254_24, by rw [k254]; exact fd12_333, by decide, by decide +kernel⟩
theorem g254_28 : pm_gF 254 28 31 12 30 2 := ⟨_, c254_28, by rw [k254]; exact fd12_59⟩
theorem g254_39 : pm_gF 254 39 42 12 30 2 := ⟨_, c254_39, by rw [k254]; exact fd12_59⟩
theorem g254_54 : pm_gF 254 54 57 12 30 2 := ⟨_, c254_54, by rw [k254]; exact fd12_59⟩
theorem g254_65 : pm_gF 254 65 68 12 34 0 := ⟨_, c254_65, by rw [k254]; exact fd12_333⟩
theorem q254_80 : pm_cF 254 80 83 254 1 3 := ⟨_, _, _, _, c254_80, rfl, by rw [k254]; exact tg12_342, rfl⟩
theorem g254_97 : pm_gF 254 97 100 12 30 2 := ⟨_, c254_97, by rw [k254]; exact fd12_59⟩
theorem g254_103 : pm_gF 254 103 106 12 30 2 := ⟨_, c254_103, by rw [k254]; exact fd12_59⟩
theorem g254_111 : pm_gF 254 111 114 12 30 2 := ⟨_, c254_111, by rw [k254]; exact fd12_59⟩
theorem tg12_345 : pm_tg 12 345 = some (255, 3, 1, false) := by decide +kernel
theorem q254_118 : pm_cF 254 118 121 255 1 4 := ⟨_, _, _, _, c254_118, rfl, by rw [k254]; exact tg12_345, rfl⟩
theorem g254_126 : pm_gF 254 126 129 12 35 0 := ⟨_, c254_126, by rw [k254]; exact fd12_336⟩
theorem p254_131 : pm_pF 254 131 134 12 35 0 := ⟨_, c254_131, by rw [k254]; exact fd12_336, by decide, by decide +kernel⟩
theorem g254_139 : pm_gF 254 139 142 12 36 0 := ⟨_, c254_139, by rw [k254]; exact fd12_339⟩
theorem p254_144 : pm_pF 254 144 147 12 36 0 := ⟨_, c254_144, by rw [k254]; exact fd12_339, by decide, by decide +kernel⟩
theorem tg12_389 : pm_tg 12 389 = some (256, 0, 1, false) := by decide +kernel
theorem q255_5 : pm_cF 255 5 8 256 1 1 := ⟨_, _, _, _, c255_5, rfl, by rw [k255]; exact tg12_389, rfl⟩
theorem tg12_392 : pm_tg 12 392 = some (258, 2, 1, false) := by decide +kernel
theorem q255_17 : pm_cF 255 17 20 258 1 3 := ⟨_, _, _, _, c255_17, rfl, by rw [k255]; exact tg12_392, rfl⟩
theorem tg12_395 : pm_tg 12 395 = some (260, 2, 1, false) := by decide +kernel
theorem q255_43 : pm_cF 255 43 46 260 1 3 := ⟨_, _, _, _, c255_43, rfl, by rw [k255]; exact tg12_395, rfl⟩
theorem tg12_398 : pm_tg 12 398 = some (261, 1, 1, false) := by decide +kernel
theorem q255_55 : pm_cF 255 55 58 261 1 2 := ⟨_, _, _, _, c255_55, rfl, by rw [k255]; exact tg12_398, rfl⟩
theorem g255_66 : pm_gF 255 66 69 12 38 2 := ⟨_, c255_66, by rw [k255]; exact fd12_65⟩
theorem tg12_401 : pm_tg 12 401 = some (272, 0, 1, false) := by decide +kernel
theorem q255_81 : pm_cF 255 81 84 272 1 1 := ⟨_, _, _, _, c255_81, rfl, by rw [k255]; exact tg12_401, rfl⟩
theorem g255_87 : pm_gF 255 87 90 12 38 2 := ⟨_, c255_87, by rw [k255]; exact fd12_65⟩
theorem g255_103 : pm_gF 255 103 106 12 38 2 := ⟨_, c255_103, by rw [k255]; exact fd12_65⟩
theorem g255_132 : pm_gF 255 132 135 12 38 2 := ⟨_, c255_132, by rw [k255]; exact fd12_65⟩
theorem tg12_374 : pm_tg 12 374 = some (257, 1, 1, false) := by decide +kernel
theorem q256_2 : pm_cF 256 2 5 257 1 2 := ⟨_, _, _, _, c256_2, rfl, by rw [k256]; exact tg12_374, rfl⟩
theorem g256_9 : pm_gF 256 9 12 12 38 2 := ⟨_, c256_9, by rw [k256]; exact fd12_65⟩
theorem g256_16 : pm_gF 256 16 19 12 20 0 := ⟨_, c256_16, by rw [k256]; exact fd12_175⟩
theorem g256_28 : pm_gF 256 28 31 12 18 0 := ⟨_, c256_28, by rw [k256]; exact fd12_169⟩
theorem g256_35 : pm_gF 256 35 38 12 38 2 := ⟨_, c256_35, by rw [k256]; exact fd12_65⟩
theorem g256_46 : pm_gF 256 46 49 12 38 2 := ⟨_, c256_46, by rw [k256]; exact fd12_65⟩
theorem g257_6 : pm_gF 257 6 9 12 18 0 := ⟨_, c257_6, by rw [k257]; exact fd12_169⟩
theorem g257_14 : pm_gF 257 14 17 12 38 2 := ⟨_, c257_14, by rw [k257]; exact fd12_65⟩
theorem g258_1 : pm_gF 258 1 4 12 38 2 := ⟨_, c258_1, by rw [k258]; exact fd12_65⟩
theorem tg12_377 : pm_tg 12 377 = some (259, 1, 1, false) := by decide +kernel
theorem q258_14 : pm_cF 258 14 17 259 1 2 := ⟨_, _, _, _, c258_14, rfl, by rw [k258]; exact tg12_377, rfl⟩
theorem g258_18 : pm_gF 258 18 21 12 13 2 := ⟨_, c258_18, by rw [k258]; exact fd12_32⟩
theorem g258_33 : pm_gF 258 33 36 12 38 2 := ⟨_, c258_33, by rw [k258]; exact fd12_65⟩
theorem g258_42 : pm_gF 258 42 45 12 38 2 := ⟨_, c258_42, by rw [k258]; exact fd12_65⟩
theorem g258_52 : pm_gF 258 52 55 12 38 2 := ⟨_, c258_52, by rw [k258]; exact fd12_65⟩
theorem g258_62 : pm_gF 258 62 65 12 38 2 := ⟨_, c258_62, by rw [k258]; exact fd12_65⟩
theorem g258_70 : pm_gF 258 70 73 12 38 2 := ⟨_, c258_70, by rw [k258]; exact fd12_65⟩
theorem g259_6 : pm_gF 259 6 9 12 18 0 := ⟨_, c259_6, by rw [k259]; exact fd12_169⟩
theorem g259_14 : pm_gF 259 14 17 12 38 2 := ⟨_, c259_14, by rw [k259]; exact fd12_65⟩
theorem g259_26 : pm_gF 259 26 29 12 38 2 := ⟨_, c259_26, by rw [k259]; exact fd12_65⟩
theorem g260_1 : pm_gF 260 1 4 12 38 2 := ⟨_, c260_1, by rw [k260]; exact fd12_65⟩
theorem g260_13 : pm_gF 260 13 16 12 38 2 := ⟨_, c260_13, by rw [k260]; exact fd12_65⟩
theorem g260_28 : pm_gF 260 28 31 12 38 2 := ⟨_, c260_28, by rw [k260]; exact fd12_65⟩
theorem tg12_383 : pm_tg 12 383 = some (262, 1, 1, false) := by decide +kernel
theorem q261_2 : pm_cF 261 2 5 262 1 2 := ⟨_, _, _, _, c261_2, rfl, by rw [k261]; exact tg12_383, rfl⟩
theorem g261_11 : pm_gF 261 11 14 12 38 2 := ⟨_, c261_11, by rw [k261]; exact fd12_65⟩
theorem tg12_380 : pm_tg 12 380 = some (263, 1, 1, false) := by decide +kernel
theorem q261_22 : pm_cF 261 22 25 263 1 2 := ⟨_, _, _, _, c261_22, rfl, by rw [k261]; exact tg12_380, rfl⟩
theorem tg12_386 : pm_tg 12 386 = some (271, 1, 1, false) := by decide +kernel
theorem q261_31 : pm_cF 261 31 34 271 1 2 := ⟨_, _, _, _, c261_31, rfl, by rw [k261]; exact tg12_386, rfl⟩
theorem g262_1 : pm_gF 262 1 4 12 38 2 := ⟨_, c262_1, by rw [k262]; exact fd12_65⟩
theorem g262_13 : pm_gF 262 13 16 12 38 2 := ⟨_, c262_13, by rw [k262]; exact fd12_65⟩
theorem g262_25 : pm_gF 262 25 28 12 38 2 := ⟨_, c262_25, by rw [k262]; exact fd12_65⟩
theorem q262_35 : pm_cF 262 35 38 263 1 2 := ⟨_, _, _, _, c262_35, rfl, by rw [k262]; exact tg12_380, rfl⟩
theorem g263_1 : pm_gF 263 1 4 12 38 2 := ⟨_, c263_1, by rw [k263]; exact fd12_65⟩
theorem g263_17 : pm_gF 263 17 20 12 40 0 := ⟨_, c263_17, by rw [k263]; exact fd12_348⟩
theorem tg12_371 : pm_tg 12 371 = some (264, 2, 1, false) := by decide +kernel
theorem q263_20 : pm_cF 263 20 23 264 1 3 := ⟨_, _, _, _, c263_20, rfl, by rw [k263]; exact tg12_371, rfl⟩
theorem g263_24 : pm_gF 263 24 27 12 38 2 := ⟨_, c263_24, by rw [k263]; exact fd12_65⟩
theorem g264_4 : pm_gF 264 4 7 12 12 2 := ⟨_, c264_4, by rw [k264]; exact fd12_29⟩
theorem g264_14 : pm_gF 264 14 17 12 38 2 := ⟨_, c264_14, by rw [k264]; exact fd12_65⟩
theorem tg12_367 : pm_tg 12 367 = some (265, 4, 1, false) := by decide +kernel
theorem q264_22 : pm_cF 264 22 25 265 1 5 := ⟨_, _, _, _, c264_22, rfl, by rw [k264]; exact tg12_367, rfl⟩
theorem g265_1 : pm_gF 265 1 4 12 28 2 := ⟨_, c265_1, by rw [k265]; exact fd12_53⟩
theorem g265_8 : pm_gF 265 8 11 12 28 2 := ⟨_, c265_8, by rw [k265]; exact fd12_53⟩
theorem g265_16 : pm_gF 265 16 19 12 28 2 := ⟨_, c265_16, by rw [k265]; exact fd12_53⟩
theorem g265_21 : pm_gF 265 21 24 12 12 2 := ⟨_, c265_21, by rw [k265]; exact fd12_29⟩
theorem g265_32 : pm_gF 265 32 35 12 28 2 := ⟨_, c265_32, by rw [k265]; exact fd12_53⟩
theorem g265_37 : pm_gF 265 37 40 12 38 2 := ⟨_, c265_37, by rw [k265]; exact fd12_65⟩
theorem g265_47 : pm_gF 265 47 50 12 28 2 := ⟨_, c265_47, by rw [k265]; exact fd12_53⟩
theorem tg12_361 : pm_tg 12 361 = some (266, 1, 1, false) := by decide +kernel
theorem q265_53 : pm_cF 265 53 56 266 1 2 := ⟨_, _, _, _, c265_53, rfl, by rw [k265]; exact tg12_361, rfl⟩
theorem g265_58 : pm_gF 265 58 61 12 28 2 := ⟨_, c265_58, by rw [k265]; exact fd12_53⟩
theorem g265_63 : pm_gF 265 63 66 12 38 2 := ⟨_, c265_63, by rw [k265]; exact fd12_65⟩
theorem g265_73 : pm_gF 265 73 76 12 28 2 := ⟨_, c265_73, by rw [k265]; exact fd12_53⟩
theorem g265_79 : pm_gF 265 79 82 12 38 2 := ⟨_, c265_79, by rw [k265]; exact fd12_65⟩
theorem g265_92 : pm_gF 265 92 95 12 38 2 := ⟨_, c265_92, by rw [k265]; exact fd12_65⟩
theorem g265_102 : pm_gF 265 102 105 12 38 2 := ⟨_, c265_102, by rw [k265]; exact fd12_65⟩
theorem g265_112 : pm_gF 265 112 115 12 28 2 := ⟨_, c265_112, by rw [k265]; exact fd12_53⟩
theorem g265_118 : pm_gF 265 118 121 12 38 2 := ⟨_, c265_118, by rw [k265]; exact fd12_65⟩
theorem tg12_364 : pm_tg 12 364 = some (268, 1, 1, false) := by decide +kernel
theorem q265_127 : pm_cF 265 127 130 268 1 2 := ⟨_, _, _, _, c265_127, rfl, by rw [k265]; exact tg12_364, rfl⟩
theorem g266_6 : pm_gF 266 6 9 12 18 0 := ⟨_, c266_6, by rw [k266]; exact fd12_169⟩
theorem tg12_357 : pm_tg 12 357 = some (267, 2, 1, false) := by decide +kernel
theorem q266_16 : pm_cF 266 16 19 267 1 3 := ⟨_, _, _, _, c266_16, rfl, by rw [k266]; exact tg12_357, rfl⟩
theorem g267_6 : pm_gF 267 6 9 12 12 2 := ⟨_, c267_6, by rw [k267]; exact fd12_29⟩
theorem g267_19 : pm_gF 267 19 22 12 12 2 := ⟨_, c267_19, by rw [k267]; exact fd12_29⟩
theorem g267_29 : pm_gF 267 29 32 12 12 2 := ⟨_, c267_29, by rw [k267]; exact fd12_29⟩
theorem g268_1 : pm_gF 268 1 4 12 25 2 := ⟨_, c268_1, by rw [k268]; exact fd12_47⟩
theorem g268_12 : pm_gF 268 12 15 12 28 2 := ⟨_, c268_12, by rw [k268]; exact fd12_53⟩
theorem g268_20 : pm_gF 268 20 23 12 28 2 := ⟨_, c268_20, by rw [k268]; exact fd12_53⟩
theorem tg12_298 : pm_tg 12 298 = some (269, 1, 1, false) := by decide +kernel
theorem q268_32 : pm_cF 268 32 35 269 1 2 := ⟨_, _, _, _, c268_32, rfl, by rw [k268]; exact tg12_298, rfl⟩
theorem g269_15 : pm_gF 269 15 18 12 25 2 := ⟨_, c269_15, by rw [k269]; exact fd12_47⟩
theorem g269_25 : pm_gF 269 25 28 12 23 2 := ⟨_, c269_25, by rw [k269]; exact fd12_41⟩
theorem g269_39 : pm_gF 269 39 42 12 26 2 := ⟨_, c269_39, by rw [k269]; exact fd12_50⟩
theorem g269_49 : pm_gF 269 49 52 12 24 2 := ⟨_, c269_49, by rw [k269]; exact fd12_44⟩
theorem g269_58 : pm_gF 269 58 61 12 28 2 := ⟨_, c269_58, by rw [k269]; exact fd12_53⟩
theorem g269_62 : pm_gF 269 62 65 12 24 2 := ⟨_, c269_62, by rw [k269]; exact fd12_44⟩
theorem g269_79 : pm_gF 269 79 82 12 26 2 := ⟨_, c269_79, by rw [k269]; exact fd12_50⟩
theorem g269_88 : pm_gF 269 88 91 12 26 2 := ⟨_, c269_88, by rw [k269]; exact fd12_50⟩
theorem g269_96 : pm_gF 269 96 99 12 26 2 := ⟨_, c269_96, by rw [k269]; exact fd12_50⟩
theorem tg12_294 : pm_tg 12 294 = some (270, 3, 0, false) := by decide +kernel
theorem q269_101 : pm_cF 269 101 104 270 0 3 := ⟨_, _, _, _, c269_101, rfl, by rw [k269]; exact tg12_294, rfl⟩
theorem g269_112 : pm_gF 269 112 115 12 26 2 := ⟨_, c269_112, by rw [k269]; exact fd12_50⟩
theorem g271_1 : pm_gF 271 1 4 12 38 2 := ⟨_, c271_1, by rw [k271]; exact fd12_65⟩
theorem g271_10 : pm_gF 271 10 13 12 38 2 := ⟨_, c271_10, by rw [k271]; exact fd12_65⟩
theorem g272_4 : pm_gF 272 4 7 12 18 0 := ⟨_, c272_4, by rw [k272]; exact fd12_169⟩
theorem g272_11 : pm_gF 272 11 14 12 38 2 := ⟨_, c272_11, by rw [k272]; exact fd12_65⟩
theorem g272_23 : pm_gF 272 23 26 12 38 2 := ⟨_, c272_23, by rw [k272]; exact fd12_65⟩
theorem g272_37 : pm_gF 272 37 40 12 42 0 := ⟨_, c272_37, by rw [k272]; exact fd12_354⟩
theorem p272_42 : pm_pF 272 42 45 12 42 0 := ⟨_, c272_42, by rw [k272]; exact fd12_354, by decide, by decide +kernel⟩
theorem g272_46 : pm_gF 272 46 49 12 38 2 := ⟨_, c272_46, by rw [k272]; exact fd12_65⟩
theorem g272_60 : pm_gF 272 60 63 12 38 2 := ⟨_, c272_60, by rw [k272]; exact fd12_65⟩
theorem g272_70 : pm_gF 272 70 73 12 38 2 := ⟨_, c272_70, by rw [k272]; exact fd12_65⟩
theorem g272_84 : pm_gF 272 84 87 12 38 2 := ⟨_, c272_84, by rw [k272]; exact fd12_65⟩
theorem g272_98 : pm_gF 272 98 101 12 41 0 := ⟨_, c272_98, by rw [k272]; exact fd12_351⟩
theorem p272_103 : pm_pF 272 103 106 12 41 0 := ⟨_, c272_103, by rw [k272]; exact fd12_351, by decide, by decide +kernel⟩
theorem g272_113 : pm_gF 272 113 116 12 38 2 := ⟨_, c272_113, by rw [k272]; exact fd12_65⟩
theorem g272_127 : pm_gF 272 127 130 12 18 0 := ⟨_, c272_127, by rw [k272]; exact fd12_169⟩
theorem g272_134 : pm_gF 272 134 137 12 38 2 := ⟨_, c272_134, by rw [k272]; exact fd12_65⟩
theorem q272_147 : pm_cF 272 147 150 263 1 2 := ⟨_, _, _, _, c272_147, rfl, by rw [k272]; exact tg12_380, rfl⟩
theorem q272_155 : pm_cF 272 155 158 271 1 2 := ⟨_, _, _, _, c272_155, rfl, by rw [k272]; exact tg12_386, rfl⟩
theorem p273_2 : pm_pF 273 2 5 12 0 0 := ⟨_, c273_2, by rw [k273]; exact fd12_3, by decide, by decide +kernel⟩
theorem g273_12 : pm_gF 273 12 15 12 2 0 := ⟨_, c273_12, by rw [k273]; exact fd12_111⟩
theorem q273_31 : pm_cF 273 31 34 222 1 4 := ⟨_, _, _, _, c273_31, rfl, by rw [k273]; exact tg12_207, rfl⟩
theorem q273_41 : pm_cF 273 41 44 223 1 2 := ⟨_, _, _, _, c273_41, rfl, by rw [k273]; exact tg12_211, rfl⟩
theorem q273_47 : pm_cF 273 47 50 224 1 1 := ⟨_, _, _, _, c273_47, rfl, by rw [k273]; exact tg12_143, rfl⟩
theorem q273_54 : pm_cF 273 54 57 225 1 1 := ⟨_, _, _, _, c273_54, rfl, by rw [k273]; exact tg12_215, rfl⟩
theorem g273_61 : pm_gF 273 61 64 12 4 0 := ⟨_, c273_61, by rw [k273]; exact fd12_120⟩
theorem q273_70 : pm_cF 273 70 73 235 1 3 := ⟨_, _, _, _, c273_70, rfl, by rw [k273]; exact tg12_199, rfl⟩
theorem q273_85 : pm_cF 273 85 88 224 1 1 := ⟨_, _, _, _, c273_85, rfl, by rw [k273]; exact tg12_143, rfl⟩
theorem g273_92 : pm_gF 273 92 95 12 43 2 := ⟨_, c273_92, by rw [k273]; exact fd12_71⟩
theorem q273_108 : pm_cF 273 108 111 232 1 3 := ⟨_, _, _, _, c273_108, rfl, by rw [k273]; exact tg12_150, rfl⟩
theorem q273_118 : pm_cF 273 118 121 224 1 1 := ⟨_, _, _, _, c273_118, rfl, by rw [k273]; exact tg12_143, rfl⟩
theorem q273_133 : pm_cF 273 133 136 232 1 3 := ⟨_, _, _, _, c273_133, rfl, by rw [k273]; exact tg12_150, rfl⟩
theorem q273_141 : pm_cF 273 141 144 235 1 3 := ⟨_, _, _, _, c273_141, rfl, by rw [k273]; exact tg12_199, rfl⟩
theorem q273_149 : pm_cF 273 149 152 238 1 2 := ⟨_, _, _, _, c273_149, rfl, by rw [k273]; exact tg12_239, rfl⟩
theorem q273_153 : pm_cF 273 153 156 224 1 1 := ⟨_, _, _, _, c273_153, rfl, by rw [k273]; exact tg12_143, rfl⟩
theorem g273_163 : pm_gF 273 163 166 12 43 2 := ⟨_, c273_163, by rw [k273]; exact fd12_71⟩
theorem g273_173 : pm_gF 273 173 176 12 43 2 := ⟨_, c273_173, by rw [k273]; exact fd12_71⟩
theorem q273_192 : pm_cF 273 192 195 239 1 2 := ⟨_, _, _, _, c273_192, rfl, by rw [k273]; exact tg12_242, rfl⟩
theorem g273_197 : pm_gF 273 197 200 12 5 0 := ⟨_, c273_197, by rw [k273]; exact fd12_114⟩
theorem p273_208 : pm_pF 273 208 211 12 45 0 := ⟨_, c273_208, by rw [k273]; exact fd12_182, by decide, by decide +kernel⟩
theorem g273_213 : pm_gF 273 213 216 12 43 2 := ⟨_, c273_213, by rw [k273]; exact fd12_71⟩
theorem g273_217 : pm_gF 273 217 220 12 44 2 := ⟨_, c273_217, by rw [k273]; exact fd12_74⟩
theorem q273_223 : pm_cF 273 223 226 218 1 4 := ⟨_, _, _, _, c273_223, rfl, by rw [k273]; exact tg12_178, rfl⟩
theorem p274_2 : pm_pF 274 2 5 12 0 0 := ⟨_, c274_2, by rw [k274]; exact fd12_3, by decide, by decide +kernel⟩
theorem g274_6 : pm_gF 274 6 9 12 32 0 := ⟨_, c274_6, by rw [k274]; exact fd12_185⟩
theorem g274_16 : pm_gF 274 16 19 12 32 0 := ⟨_, c274_16, by rw [k274]; exact fd12_185⟩
theorem p274_21 : pm_pF 274 21 24 12 32 0 := ⟨_, c274_21, by rw [k274]; exact fd12_185, by decide, by decide +kernel⟩
theorem g274_33 : pm_gF 274 33 36 12 37 2 := ⟨_, c274_33, by rw [k274]; exact fd12_62⟩
theorem g274_38 : pm_gF 274 38 41 12 39 2 := ⟨_, c274_38, by rw [k274]; exact fd12_68⟩
theorem g274_44 : pm_gF 274 44 47 12 32 0 := ⟨_, c274_44, by rw [k274]; exact fd12_185⟩
theorem p274_60 : pm_pF 274 60 63 12 33 0 := ⟨_, c274_60, by rw [k274]; exact fd12_191, by decide, by decide +kernel⟩
theorem g274_64 : pm_gF 274 64 67 12 32 0 := ⟨_, c274_64, by rw [k274]; exact fd12_185⟩
theorem p275_2 : pm_pF 275 2 5 12 0 0 := ⟨_, c275_2, by rw [k275]; exact fd12_3, by decide, by decide +kernel⟩
theorem q275_10 : pm_cF 275 10 13 241 0 3 := ⟨_, _, _, _, c275_10, rfl, by rw [k275]; exact tg12_290, rfl⟩
theorem q275_15 : pm_cF 275 15 18 222 1 4 := ⟨_, _, _, _, c275_15, rfl, by rw [k275]; exact tg12_207, rfl⟩
theorem q275_24 : pm_cF 275 24 27 253 1 1 := ⟨_, _, _, _, c275_24, rfl, by rw [k275]; exact tg12_330, rfl⟩
theorem g275_37 : pm_gF 275 37 40 12 18 0 := ⟨_, c275_37, by rw [k275]; exact fd12_169⟩
theorem g275_49 : pm_gF 275 49 52 12 19 0 := ⟨_, c275_49, by rw [k275]; exact fd12_172⟩
theorem g275_61 : pm_gF 275 61 64 12 38 2 := ⟨_, c275_61, by rw [k275]; exact fd12_65⟩
theorem g275_71 : pm_gF 275 71 74 12 38 2 := ⟨_, c275_71, by rw [k275]; exact fd12_65⟩
theorem q275_88 : pm_cF 275 88 91 257 1 2 := ⟨_, _, _, _, c275_88, rfl, by rw [k275]; exact tg12_374, rfl⟩
theorem g275_99 : pm_gF 275 99 102 12 45 0 := ⟨_, c275_99, by rw [k275]; exact fd12_182⟩
theorem g275_112 : pm_gF 275 112 115 12 33 0 := ⟨_, c275_112, by rw [k275]; exact fd12_191⟩
theorem g275_119 : pm_gF 275 119 122 12 20 0 := ⟨_, c275_119, by rw [k275]; exact fd12_175⟩
theorem p276_2 : pm_pF 276 2 5 12 0 0 := ⟨_, c276_2, by rw [k276]; exact fd12_3, by decide, by decide +kernel⟩
theorem tg12_404 : pm_tg 12 404 = some (277, 2, 1, false) := by decide +kernel
theorem q276_8 : pm_cF 276 8 11 277 1 3 := ⟨_, _, _, _, c276_8, rfl, by rw [k276]; exact tg12_404, rfl⟩
theorem q276_19 : pm_cF 276 19 22 241 0 3 := ⟨_, _, _, _, c276_19, rfl, by rw [k276]; exact tg12_290, rfl⟩
theorem q276_24 : pm_cF 276 24 27 222 1 4 := ⟨_, _, _, _, c276_24, rfl, by rw [k276]; exact tg12_207, rfl⟩
theorem g276_38 : pm_gF 276 38 41 12 12 2 := ⟨_, c276_38, by rw [k276]; exact fd12_29⟩
theorem g276_60 : pm_gF 276 60 63 12 37 2 := ⟨_, c276_60, by rw [k276]; exact fd12_62⟩
theorem g276_76 : pm_gF 276 76 79 12 37 2 := ⟨_, c276_76, by rw [k276]; exact fd12_62⟩
theorem g276_88 : pm_gF 276 88 91 12 37 2 := ⟨_, c276_88, by rw [k276]; exact fd12_62⟩
theorem g276_110 : pm_gF 276 110 113 12 37 2 := ⟨_, c276_110, by rw [k276]; exact fd12_62⟩
theorem g276_122 : pm_gF 276 122 125 12 37 2 := ⟨_, c276_122, by rw [k276]; exact fd12_62⟩
theorem g276_138 : pm_gF 276 138 141 12 37 2 := ⟨_, c276_138, by rw [k276]; exact fd12_62⟩
theorem g276_150 : pm_gF 276 150 153 12 37 2 := ⟨_, c276_150, by rw [k276]; exact fd12_62⟩
theorem g277_4 : pm_gF 277 4 7 12 18 0 := ⟨_, c277_4, by rw [k277]; exact fd12_169⟩
theorem q277_9 : pm_cF 277 9 12 241 0 3 := ⟨_, _, _, _, c277_9, rfl, by rw [k277]; exact tg12_290, rfl⟩
theorem q277_14 : pm_cF 277 14 17 222 1 4 := ⟨_, _, _, _, c277_14, rfl, by rw [k277]; exact tg12_207, rfl⟩
theorem p278_2 : pm_pF 278 2 5 12 0 0 := ⟨_, c278_2, by rw [k278]; exact fd12_3, by decide, by decide +kernel⟩
theorem tg12_407 : pm_tg 12 407 = some (279, 2, 1, false) := by decide +kernel
theorem q278_8 : pm_cF 278 8 11 279 1 3 := ⟨_, _, _, _, c278_8, rfl, by rw [k278]; exact tg12_407, rfl⟩
theorem q278_18 : pm_cF 278 18 21 241 0 3 := ⟨_, _, _, _, c278_18, rfl, by rw [k278]; exact tg12_290, rfl⟩
theorem q278_23 : pm_cF 278 23 26 222 1 4 := ⟨_, _, _, _, c278_23, rfl, by rw [k278]; exact tg12_207, rfl⟩
theorem q278_32 : pm_cF 278 32 35 253 1 1 := ⟨_, _, _, _, c278_32, rfl, by rw [k278]; exact tg12_330, rfl⟩
theorem g278_41 : pm_gF 278 41 44 12 13 2 := ⟨_, c278_41, by rw [k278]; exact fd12_32⟩
theorem q278_55 : pm_cF 278 55 58 259 1 2 := ⟨_, _, _, _, c278_55, rfl, by rw [k278]; exact tg12_377, rfl⟩
theorem g279_4 : pm_gF 279 4 7 12 19 0 := ⟨_, c279_4, by rw [k279]; exact fd12_172⟩
theorem q279_9 : pm_cF 279 9 12 241 0 3 := ⟨_, _, _, _, c279_9, rfl, by rw [k279]; exact tg12_290, rfl⟩
theorem q279_14 : pm_cF 279 14 17 222 1 4 := ⟨_, _, _, _, c279_14, rfl, by rw [k279]; exact tg12_207, rfl⟩
theorem p280_2 : pm_pF 280 2 5 12 0 0 := ⟨_, c280_2, by rw [k280]; exact fd12_3, by decide, by decide +kernel⟩
theorem q280_8 : pm_cF 280 8 11 277 1 3 := ⟨_, _, _, _, c280_8, rfl, by rw [k280]; exact tg12_404, rfl⟩
theorem q280_18 : pm_cF 280 18 21 241 0 3 := ⟨_, _, _, _, c280_18, rfl, by rw [k280]; exact tg12_290, rfl⟩
theorem q280_23 : pm_cF 280 23 26 222 1 4 := ⟨_, _, _, _, c280_23, rfl, by rw [k280]; exact tg12_207, rfl⟩
theorem q280_32 : pm_cF 280 32 35 253 1 1 := ⟨_, _, _, _, c280_32, rfl, by rw [k280]; exact tg12_330, rfl⟩
theorem q280_38 : pm_cF 280 38 41 264 1 3 := ⟨_, _, _, _, c280_38, rfl, by rw [k280]; exact tg12_371, rfl⟩
theorem p281_2 : pm_pF 281 2 5 12 0 0 := ⟨_, c281_2, by rw [k281]; exact fd12_3, by decide, by decide +kernel⟩
theorem q281_8 : pm_cF 281 8 11 277 1 3 := ⟨_, _, _, _, c281_8, rfl, by rw [k281]; exact tg12_404, rfl⟩
theorem q281_17 : pm_cF 281 17 20 253 1 1 := ⟨_, _, _, _, c281_17, rfl, by rw [k281]; exact tg12_330, rfl⟩
theorem q281_22 : pm_cF 281 22 25 263 1 2 := ⟨_, _, _, _, c281_22, rfl, by rw [k281]; exact tg12_380, rfl⟩
theorem p282_2 : pm_pF 282 2 5 12 0 0 := ⟨_, c282_2, by rw [k282]; exact fd12_3, by decide, by decide +kernel⟩
theorem q282_10 : pm_cF 282 10 13 241 0 3 := ⟨_, _, _, _, c282_10, rfl, by rw [k282]; exact tg12_290, rfl⟩
theorem q282_20 : pm_cF 282 20 23 241 0 3 := ⟨_, _, _, _, c282_20, rfl, by rw [k282]; exact tg12_290, rfl⟩
theorem q282_29 : pm_cF 282 29 32 241 0 3 := ⟨_, _, _, _, c282_29, rfl, by rw [k282]; exact tg12_290, rfl⟩
theorem q282_40 : pm_cF 282 40 43 241 0 3 := ⟨_, _, _, _, c282_40, rfl, by rw [k282]; exact tg12_290, rfl⟩
theorem q282_50 : pm_cF 282 50 53 241 0 3 := ⟨_, _, _, _, c282_50, rfl, by rw [k282]; exact tg12_290, rfl⟩
theorem q282_62 : pm_cF 282 62 65 241 0 3 := ⟨_, _, _, _, c282_62, rfl, by rw [k282]; exact tg12_290, rfl⟩
theorem q282_75 : pm_cF 282 75 78 222 1 4 := ⟨_, _, _, _, c282_75, rfl, by rw [k282]; exact tg12_207, rfl⟩
theorem g282_84 : pm_gF 282 84 87 12 28 2 := ⟨_, c282_84, by rw [k282]; exact fd12_53⟩
theorem g282_91 : pm_gF 282 91 94 12 28 2 := ⟨_, c282_91, by rw [k282]; exact fd12_53⟩
theorem g282_98 : pm_gF 282 98 101 12 28 2 := ⟨_, c282_98, by rw [k282]; exact fd12_53⟩
theorem g282_105 : pm_gF 282 105 108 12 28 2 := ⟨_, c282_105, by rw [k282]; exact fd12_53⟩
theorem g282_113 : pm_gF 282 113 116 12 28 2 := ⟨_, c282_113, by rw [k282]; exact fd12_53⟩
theorem g282_120 : pm_gF 282 120 123 12 28 2 := ⟨_, c282_120, by rw [k282]; exact fd12_53⟩
theorem g282_128 : pm_gF 282 128 131 12 28 2 := ⟨_, c282_128, by rw [k282]; exact fd12_53⟩
theorem g282_136 : pm_gF 282 136 139 12 28 2 := ⟨_, c282_136, by rw [k282]; exact fd12_53⟩
theorem q282_146 : pm_cF 282 146 149 268 1 2 := ⟨_, _, _, _, c282_146, rfl, by rw [k282]; exact tg12_364, rfl⟩
theorem p283_2 : pm_pF 283 2 5 12 0 0 := ⟨_, c283_2, by rw [k283]; exact fd12_3, by decide, by decide +kernel⟩
theorem q283_6 : pm_cF 283 6 9 253 1 1 := ⟨_, _, _, _, c283_6, rfl, by rw [k283]; exact tg12_330, rfl⟩
theorem g283_15 : pm_gF 283 15 18 12 18 0 := ⟨_, c283_15, by rw [k283]; exact fd12_169⟩
theorem g283_23 : pm_gF 283 23 26 12 38 2 := ⟨_, c283_23, by rw [k283]; exact fd12_65⟩
theorem g283_35 : pm_gF 283 35 38 12 38 2 := ⟨_, c283_35, by rw [k283]; exact fd12_65⟩
theorem q283_46 : pm_cF 283 46 49 264 1 3 := ⟨_, _, _, _, c283_46, rfl, by rw [k283]; exact tg12_371, rfl⟩
theorem p284_2 : pm_pF 284 2 5 12 0 0 := ⟨_, c284_2, by rw [k284]; exact fd12_3, by decide, by decide +kernel⟩
theorem q284_8 : pm_cF 284 8 11 277 1 3 := ⟨_, _, _, _, c284_8, rfl, by rw [k284]; exact tg12_404, rfl⟩
theorem tg12_410 : pm_tg 12 410 = some (285, 2, 1, false) := by decide +kernel
theorem q284_19 : pm_cF 284 19 22 285 1 3 := ⟨_, _, _, _, c284_19, rfl, by rw [k284]; exact tg12_410, rfl⟩
theorem q285_1 : pm_cF 285 1 4 253 1 1 := ⟨_, _, _, _, c285_1, rfl, by rw [k285]; exact tg12_330, rfl⟩
theorem p285_6 : pm_pF 285 6 9 12 40 0 := ⟨_, c285_6, by rw [k285]; exact fd12_348, by decide, by decide +kernel⟩
theorem g285_10 : pm_gF 285 10 13 12 38 2 := ⟨_, c285_10, by rw [k285]; exact fd12_65⟩
theorem q285_33 : pm_cF 285 33 36 272 1 1 := ⟨_, _, _, _, c285_33, rfl, by rw [k285]; exact tg12_401, rfl⟩
theorem g285_37 : pm_gF 285 37 40 12 38 2 := ⟨_, c285_37, by rw [k285]; exact fd12_65⟩
theorem p286_2 : pm_pF 286 2 5 12 0 0 := ⟨_, c286_2, by rw [k286]; exact fd12_3, by decide, by decide +kernel⟩
theorem q286_8 : pm_cF 286 8 11 277 1 3 := ⟨_, _, _, _, c286_8, rfl, by rw [k286]; exact tg12_404, rfl⟩
theorem q286_19 : pm_cF 286 19 22 285 1 3 := ⟨_, _, _, _, c286_19, rfl, by rw [k286]; exact tg12_410, rfl⟩
theorem p287_2 : pm_pF 287 2 5 12 0 0 := ⟨_, c287_2, by rw [k287]; exact fd12_3, by decide, by decide +kernel⟩
theorem q287_11 : pm_cF 287 11 14 241 0 3 := ⟨_, _, _, _, c287_11, rfl, by rw [k287]; exact tg12_290, rfl⟩
theorem q287_20 : pm_cF 287 20 23 241 0 3 := ⟨_, _, _, _, c287_20, rfl, by rw [k287]; exact tg12_290, rfl⟩
theorem q287_33 : pm_cF 287 33 36 222 1 4 := ⟨_, _, _, _, c287_33, rfl, by rw [k287]; exact tg12_207, rfl⟩
theorem q287_42 : pm_cF 287 42 45 253 1 1 := ⟨_, _, _, _, c287_42, rfl, by rw [k287]; exact tg12_330, rfl⟩
theorem q287_53 : pm_cF 287 53 56 272 1 1 := ⟨_, _, _, _, c287_53, rfl, by rw [k287]; exact tg12_401, rfl⟩
theorem q287_68 : pm_cF 287 68 71 257 1 2 := ⟨_, _, _, _, c287_68, rfl, by rw [k287]; exact tg12_374, rfl⟩
theorem g287_80 : pm_gF 287 80 83 12 42 0 := ⟨_, c287_80, by rw [k287]; exact fd12_354⟩
theorem g287_87 : pm_gF 287 87 90 12 41 0 := ⟨_, c287_87, by rw [k287]; exact fd12_351⟩
theorem p288_2 : pm_pF 288 2 5 12 0 0 := ⟨_, c288_2, by rw [k288]; exact fd12_3, by decide, by decide +kernel⟩
theorem q288_8 : pm_cF 288 8 11 279 1 3 := ⟨_, _, _, _, c288_8, rfl, by rw [k288]; exact tg12_407, rfl⟩
theorem q288_17 : pm_cF 288 17 20 277 1 3 := ⟨_, _, _, _, c288_17, rfl, by rw [k288]; exact tg12_404, rfl⟩
theorem q288_26 : pm_cF 288 26 29 253 1 1 := ⟨_, _, _, _, c288_26, rfl, by rw [k288]; exact tg12_330, rfl⟩
theorem tg12_413 : pm_tg 12 413 = some (289, 2, 1, false) := by decide +kernel
theorem q288_32 : pm_cF 288 32 35 289 1 3 := ⟨_, _, _, _, c288_32, rfl, by rw [k288]; exact tg12_413, rfl⟩
theorem g289_1 : pm_gF 289 1 4 12 13 2 := ⟨_, c289_1, by rw [k289]; exact fd12_32⟩
theorem q289_12 : pm_cF 289 12 15 263 1 2 := ⟨_, _, _, _, c289_12, rfl, by rw [k289]; exact tg12_380, rfl⟩
theorem g289_21 : pm_gF 289 21 24 12 13 2 := ⟨_, c289_21, by rw [k289]; exact fd12_32⟩
theorem g289_29 : pm_gF 289 29 32 12 12 2 := ⟨_, c289_29, by rw [k289]; exact fd12_29⟩
theorem p290_2 : pm_pF 290 2 5 12 0 0 := ⟨_, c290_2, by rw [k290]; exact fd12_3, by decide, by decide +kernel⟩
theorem q290_9 : pm_cF 290 9 12 241 0 3 := ⟨_, _, _, _, c290_9, rfl, by rw [k290]; exact tg12_290, rfl⟩
theorem q290_14 : pm_cF 290 14 17 222 1 4 := ⟨_, _, _, _, c290_14, rfl, by rw [k290]; exact tg12_207, rfl⟩
theorem tg12_425 : pm_tg 12 425 = some (291, 0, 1, false) := by decide +kernel
theorem q290_23 : pm_cF 290 23 26 291 1 1 := ⟨_, _, _, _, c290_23, rfl, by rw [k290]; exact tg12_425, rfl⟩
theorem fd12_416 : pm_fd 12 416 = some (12, 50, 0) := by decide +kernel
theorem g290_31 : pm_gF 290 31 34 12 50 0 := ⟨_, c290_31, by rw [k290]; exact fd12_416⟩
theorem g290_41 : pm_gF 290 41 44 12 18 0 := ⟨_, c290_41, by rw [k290]; exact fd12_169⟩
theorem g290_49 : pm_gF 290 49 52 12 49 2 := ⟨_, c290_49, by rw [k290]; exact fd12_86⟩
theorem q291_1 : pm_cF 291 1 4 253 1 1 := ⟨_, _, _, _, c291_1, rfl, by rw [k291]; exact tg12_330, rfl⟩
theorem g291_8 : pm_gF 291 8 11 12 19 0 := ⟨_, c291_8, by rw [k291]; exact fd12_172⟩
theorem g291_15 : pm_gF 291 15 18 12 47 2 := ⟨_, c291_15, by rw [k291]; exact fd12_80⟩
theorem g291_20 : pm_gF 291 20 23 12 13 2 := ⟨_, c291_20, by rw [k291]; exact fd12_32⟩
theorem q291_31 : pm_cF 291 31 34 259 1 2 := ⟨_, _, _, _, c291_31, rfl, by rw [k291]; exact tg12_377, rfl⟩
theorem g291_40 : pm_gF 291 40 43 12 18 0 := ⟨_, c291_40, by rw [k291]; exact fd12_169⟩
theorem g291_47 : pm_gF 291 47 50 12 46 2 := ⟨_, c291_47, by rw [k291]; exact fd12_77⟩
theorem q291_59 : pm_cF 291 59 62 289 1 3 := ⟨_, _, _, _, c291_59, rfl, by rw [k291]; exact tg12_413, rfl⟩
theorem p291_77 : pm_pF 291 77 80 12 50 0 := ⟨_, c291_77, by rw [k291]; exact fd12_416, by decide, by decide +kernel⟩
theorem tg12_419 : pm_tg 12 419 = some (292, 2, 1, false) := by decide +kernel
theorem q291_83 : pm_cF 291 83 86 292 1 3 := ⟨_, _, _, _, c291_83, rfl, by rw [k291]; exact tg12_419, rfl⟩
theorem g292_2 : pm_gF 292 2 5 12 18 0 := ⟨_, c292_2, by rw [k292]; exact fd12_169⟩
theorem g292_10 : pm_gF 292 10 13 12 50 0 := ⟨_, c292_10, by rw [k292]; exact fd12_416⟩
theorem p292_19 : pm_pF 292 19 22 12 50 0 := ⟨_, c292_19, by rw [k292]; exact fd12_416, by decide, by decide +kernel⟩
theorem g292_24 : pm_gF 292 24 27 12 48 2 := ⟨_, c292_24, by rw [k292]; exact fd12_83⟩
theorem g292_28 : pm_gF 292 28 31 12 49 2 := ⟨_, c292_28, by rw [k292]; exact fd12_86⟩
theorem q292_33 : pm_cF 292 33 36 218 1 4 := ⟨_, _, _, _, c292_33, rfl, by rw [k292]; exact tg12_178, rfl⟩
theorem g292_38 : pm_gF 292 38 41 12 38 2 := ⟨_, c292_38, by rw [k292]; exact fd12_65⟩
theorem g292_50 : pm_gF 292 50 53 12 48 2 := ⟨_, c292_50, by rw [k292]; exact fd12_83⟩
theorem q292_61 : pm_cF 292 61 64 292 1 3 := ⟨_, _, _, _, c292_61, rfl, by rw [k292]; exact tg12_419, rfl⟩
theorem g292_69 : pm_gF 292 69 72 12 19 0 := ⟨_, c292_69, by rw [k292]; exact fd12_172⟩
theorem tg12_422 : pm_tg 12 422 = some (293, 2, 1, false) := by decide +kernel
theorem q292_78 : pm_cF 292 78 81 293 1 3 := ⟨_, _, _, _, c292_78, rfl, by rw [k292]; exact tg12_422, rfl⟩
theorem g292_88 : pm_gF 292 88 91 12 48 2 := ⟨_, c292_88, by rw [k292]; exact fd12_83⟩
theorem g292_100 : pm_gF 292 100 103 12 47 2 := ⟨_, c292_100, by rw [k292]; exact fd12_80⟩
theorem g292_124 : pm_gF 292 124 127 12 46 2 := ⟨_, c292_124, by rw [k292]; exact fd12_77⟩
theorem q292_135 : pm_cF 292 135 138 292 1 3 := ⟨_, _, _, _, c292_135, rfl, by rw [k292]; exact tg12_419, rfl⟩
theorem g292_144 : pm_gF 292 144 147 12 47 2 := ⟨_, c292_144, by rw [k292]; exact fd12_80⟩
theorem q293_10 : pm_cF 293 10 13 267 1 3 := ⟨_, _, _, _, c293_10, rfl, by rw [k293]; exact tg12_357, rfl⟩
theorem g293_17 : pm_gF 293 17 20 12 38 2 := ⟨_, c293_17, by rw [k293]; exact fd12_65⟩
theorem g293_29 : pm_gF 293 29 32 12 48 2 := ⟨_, c293_29, by rw [k293]; exact fd12_83⟩
theorem g293_52 : pm_gF 293 52 55 12 47 2 := ⟨_, c293_52, by rw [k293]; exact fd12_80⟩
theorem p294_2 : pm_pF 294 2 5 12 0 0 := ⟨_, c294_2, by rw [k294]; exact fd12_3, by decide, by decide +kernel⟩
theorem q294_8 : pm_cF 294 8 11 277 1 3 := ⟨_, _, _, _, c294_8, rfl, by rw [k294]; exact tg12_404, rfl⟩
theorem q294_17 : pm_cF 294 17 20 291 1 1 := ⟨_, _, _, _, c294_17, rfl, by rw [k294]; exact tg12_425, rfl⟩
theorem g294_21 : pm_gF 294 21 24 12 49 2 := ⟨_, c294_21, by rw [k294]; exact fd12_86⟩
theorem p295_2 : pm_pF 295 2 5 12 0 0 := ⟨_, c295_2, by rw [k295]; exact fd12_3, by decide, by decide +kernel⟩
theorem g295_11 : pm_gF 295 11 14 12 18 0 := ⟨_, c295_11, by rw [k295]; exact fd12_169⟩
theorem q295_28 : pm_cF 295 28 31 267 1 3 := ⟨_, _, _, _, c295_28, rfl, by rw [k295]; exact tg12_357, rfl⟩
theorem g295_35 : pm_gF 295 35 38 12 37 2 := ⟨_, c295_35, by rw [k295]; exact fd12_62⟩
theorem g295_47 : pm_gF 295 47 50 12 37 2 := ⟨_, c295_47, by rw [k295]; exact fd12_62⟩
theorem g295_59 : pm_gF 295 59 62 12 37 2 := ⟨_, c295_59, by rw [k295]; exact fd12_62⟩
theorem g295_68 : pm_gF 295 68 71 12 37 2 := ⟨_, c295_68, by rw [k295]; exact fd12_62⟩
theorem p296_2 : pm_pF 296 2 5 12 0 0 := ⟨_, c296_2, by rw [k296]; exact fd12_3, by decide, by decide +kernel⟩
theorem q296_8 : pm_cF 296 8 11 277 1 3 := ⟨_, _, _, _, c296_8, rfl, by rw [k296]; exact tg12_404, rfl⟩
theorem g296_22 : pm_gF 296 22 25 12 18 0 := ⟨_, c296_22, by rw [k296]; exact fd12_169⟩
theorem q296_32 : pm_cF 296 32 35 267 1 3 := ⟨_, _, _, _, c296_32, rfl, by rw [k296]; exact tg12_357, rfl⟩
theorem p297_2 : pm_pF 297 2 5 12 0 0 := ⟨_, c297_2, by rw [k297]; exact fd12_3, by decide, by decide +kernel⟩
theorem q297_8 : pm_cF 297 8 11 277 1 3 := ⟨_, _, _, _, c297_8, rfl, by rw [k297]; exact tg12_404, rfl⟩
theorem q297_17 : pm_cF 297 17 20 253 1 1 := ⟨_, _, _, _, c297_17, rfl, by rw [k297]; exact tg12_330, rfl⟩
theorem g297_21 : pm_gF 297 21 24 12 38 2 := ⟨_, c297_21, by rw [k297]; exact fd12_65⟩
theorem q297_37 : pm_cF 297 37 40 263 1 2 := ⟨_, _, _, _, c297_37, rfl, by rw [k297]; exact tg12_380, rfl⟩
theorem p298_2 : pm_pF 298 2 5 12 0 0 := ⟨_, c298_2, by rw [k298]; exact fd12_3, by decide, by decide +kernel⟩
theorem q298_8 : pm_cF 298 8 11 277 1 3 := ⟨_, _, _, _, c298_8, rfl, by rw [k298]; exact tg12_404, rfl⟩
theorem q298_17 : pm_cF 298 17 20 253 1 1 := ⟨_, _, _, _, c298_17, rfl, by rw [k298]; exact tg12_330, rfl⟩
theorem q298_22 : pm_cF 298 22 25 262 1 2 := ⟨_, _, _, _, c298_22, rfl, by rw [k298]; exact tg12_383, rfl⟩
theorem p299_2 : pm_pF 299 2 5 12 0 0 := ⟨_, c299_2, by rw [k299]; exact fd12_3, by decide, by decide +kernel⟩
theorem q299_10 : pm_cF 299 10 13 241 0 3 := ⟨_, _, _, _, c299_10, rfl, by rw [k299]; exact tg12_290, rfl⟩
theorem q299_15 : pm_cF 299 15 18 222 1 4 := ⟨_, _, _, _, c299_15, rfl, by rw [k299]; exact tg12_207, rfl⟩
theorem q299_24 : pm_cF 299 24 27 253 1 1 := ⟨_, _, _, _, c299_24, rfl, by rw [k299]; exact tg12_330, rfl⟩
theorem q299_29 : pm_cF 299 29 32 257 1 2 := ⟨_, _, _, _, c299_29, rfl, by rw [k299]; exact tg12_374, rfl⟩
theorem p300_2 : pm_pF 300 2 5 12 0 0 := ⟨_, c300_2, by rw [k300]; exact fd12_3, by decide, by decide +kernel⟩
theorem q300_10 : pm_cF 300 10 13 241 0 3 := ⟨_, _, _, _, c300_10, rfl, by rw [k300]; exact tg12_290, rfl⟩
theorem q300_15 : pm_cF 300 15 18 222 1 4 := ⟨_, _, _, _, c300_15, rfl, by rw [k300]; exact tg12_207, rfl⟩
theorem q300_24 : pm_cF 300 24 27 253 1 1 := ⟨_, _, _, _, c300_24, rfl, by rw [k300]; exact tg12_330, rfl⟩
theorem q300_29 : pm_cF 300 29 32 257 1 2 := ⟨_, _, _, _, c300_29, rfl, by rw [k300]; exact tg12_374, rfl⟩
theorem g300_38 : pm_gF 300 38 41 12 38 2 := ⟨_, c300_38, by rw [k300]; exact fd12_65⟩
theorem q300_46 : pm_cF 300 46 49 257 1 2 := ⟨_, _, _, _, c300_46, rfl, by rw [k300]; exact tg12_374, rfl⟩
theorem p301_2 : pm_pF 301 2 5 12 0 0 := ⟨_, c301_2, by rw [k301]; exact fd12_3, by decide, by decide +kernel⟩
theorem q301_6 : pm_cF 301 6 9 253 1 1 := ⟨_, _, _, _, c301_6, rfl, by rw [k301]; exact tg12_330, rfl⟩
theorem q301_18 : pm_cF 301 18 21 272 1 1 := ⟨_, _, _, _, c301_18, rfl, by rw [k301]; exact tg12_401, rfl⟩
theorem g301_22 : pm_gF 301 22 25 12 41 0 := ⟨_, c301_22, by rw [k301]; exact fd12_351⟩
theorem p302_2 : pm_pF 302 2 5 12 0 0 := ⟨_, c302_2, by rw [k302]; exact fd12_3, by decide, by decide +kernel⟩
theorem q302_8 : pm_cF 302 8 11 277 1 3 := ⟨_, _, _, _, c302_8, rfl, by rw [k302]; exact tg12_404, rfl⟩
theorem q302_18 : pm_cF 302 18 21 241 0 3 := ⟨_, _, _, _, c302_18, rfl, by rw [k302]; exact tg12_290, rfl⟩
theorem q302_23 : pm_cF 302 23 26 222 1 4 := ⟨_, _, _, _, c302_23, rfl, by rw [k302]; exact tg12_207, rfl⟩
theorem tg12_431 : pm_tg 12 431 = some (303, 1, 1, false) := by decide +kernel
theorem q302_33 : pm_cF 302 33 36 303 1 2 := ⟨_, _, _, _, c302_33, rfl, by rw [k302]; exact tg12_431, rfl⟩
theorem g302_59 : pm_gF 302 59 62 12 51 2 := ⟨_, c302_59, by rw [k302]; exact fd12_89⟩
theorem g302_110 : pm_gF 302 110 113 12 52 2 := ⟨_, c302_110, by rw [k302]; exact fd12_93⟩
theorem g302_122 : pm_gF 302 122 125 12 52 2 := ⟨_, c302_122, by rw [k302]; exact fd12_93⟩
theorem g302_136 : pm_gF 302 136 139 12 52 2 := ⟨_, c302_136, by rw [k302]; exact fd12_93⟩
theorem g302_148 : pm_gF 302 148 151 12 52 2 := ⟨_, c302_148, by rw [k302]; exact fd12_93⟩
theorem q303_1 : pm_cF 303 1 4 253 1 1 := ⟨_, _, _, _, c303_1, rfl, by rw [k303]; exact tg12_330, rfl⟩
theorem g303_14 : pm_gF 303 14 17 12 52 2 := ⟨_, c303_14, by rw [k303]; exact fd12_93⟩
theorem q303_31 : pm_cF 303 31 34 265 1 5 := ⟨_, _, _, _, c303_31, rfl, by rw [k303]; exact tg12_367, rfl⟩
theorem g303_36 : pm_gF 303 36 39 12 51 2 := ⟨_, c303_36, by rw [k303]; exact fd12_89⟩
theorem g303_46 : pm_gF 303 46 49 12 45 0 := ⟨_, c303_46, by rw [k303]; exact fd12_182⟩
theorem g303_53 : pm_gF 303 53 56 12 51 2 := ⟨_, c303_53, by rw [k303]; exact fd12_89⟩
theorem g303_58 : pm_gF 303 58 61 12 51 2 := ⟨_, c303_58, by rw [k303]; exact fd12_89⟩
theorem g303_67 : pm_gF 303 67 70 12 52 2 := ⟨_, c303_67, by rw [k303]; exact fd12_93⟩
theorem g303_73 : pm_gF 303 73 76 12 44 2 := ⟨_, c303_73, by rw [k303]; exact fd12_74⟩
theorem tg12_428 : pm_tg 12 428 = some (304, 2, 0, false) := by decide +kernel
theorem q303_80 : pm_cF 303 80 83 304 0 2 := ⟨_, _, _, _, c303_80, rfl, by rw [k303]; exact tg12_428, rfl⟩
theorem g303_84 : pm_gF 303 84 87 12 44 2 := ⟨_, c303_84, by rw [k303]; exact fd12_74⟩
theorem p305_2 : pm_pF 305 2 5 12 0 0 := ⟨_, c305_2, by rw [k305]; exact fd12_3, by decide, by decide +kernel⟩
theorem q305_8 : pm_cF 305 8 11 277 1 3 := ⟨_, _, _, _, c305_8, rfl, by rw [k305]; exact tg12_404, rfl⟩
theorem q305_18 : pm_cF 305 18 21 241 0 3 := ⟨_, _, _, _, c305_18, rfl, by rw [k305]; exact tg12_290, rfl⟩
theorem q305_23 : pm_cF 305 23 26 222 1 4 := ⟨_, _, _, _, c305_23, rfl, by rw [k305]; exact tg12_207, rfl⟩
theorem q305_33 : pm_cF 305 33 36 303 1 2 := ⟨_, _, _, _, c305_33, rfl, by rw [k305]; exact tg12_431, rfl⟩
theorem tg12_434 : pm_tg 12 434 = some (306, 1, 1, false) := by decide +kernel
theorem q305_55 : pm_cF 305 55 58 306 1 2 := ⟨_, _, _, _, c305_55, rfl, by rw [k305]; exact tg12_434, rfl⟩
theorem tg12_437 : pm_tg 12 437 = some (307, 1, 1, false) := by decide +kernel
theorem q305_67 : pm_cF 305 67 70 307 1 2 := ⟨_, _, _, _, c305_67, rfl, by rw [k305]; exact tg12_437, rfl⟩
theorem g306_4 : pm_gF 306 4 7 12 45 0 := ⟨_, c306_4, by rw [k306]; exact fd12_182⟩
theorem g306_11 : pm_gF 306 11 14 12 44 2 := ⟨_, c306_11, by rw [k306]; exact fd12_74⟩
theorem g307_10 : pm_gF 307 10 13 12 53 2 := ⟨_, c307_10, by rw [k307]; exact fd12_96⟩
theorem g307_34 : pm_gF 307 34 37 12 51 2 := ⟨_, c307_34, by rw [k307]; exact fd12_89⟩
theorem g307_46 : pm_gF 307 46 49 12 52 2 := ⟨_, c307_46, by rw [k307]; exact fd12_93⟩
theorem q307_52 : pm_cF 307 52 55 304 0 2 := ⟨_, _, _, _, c307_52, rfl, by rw [k307]; exact tg12_428, rfl⟩
theorem g307_58 : pm_gF 307 58 61 12 53 2 := ⟨_, c307_58, by rw [k307]; exact fd12_96⟩
theorem g307_69 : pm_gF 307 69 72 12 53 2 := ⟨_, c307_69, by rw [k307]; exact fd12_96⟩
theorem g307_80 : pm_gF 307 80 83 12 53 2 := ⟨_, c307_80, by rw [k307]; exact fd12_96⟩
theorem p308_2 : pm_pF 308 2 5 12 0 0 := ⟨_, c308_2, by rw [k308]; exact fd12_3, by decide, by decide +kernel⟩
theorem q308_10 : pm_cF 308 10 13 241 0 3 := ⟨_, _, _, _, c308_10, rfl, by rw [k308]; exact tg12_290, rfl⟩
theorem q308_27 : pm_cF 308 27 30 241 0 3 := ⟨_, _, _, _, c308_27, rfl, by rw [k308]; exact tg12_290, rfl⟩
theorem q308_36 : pm_cF 308 36 39 241 0 3 := ⟨_, _, _, _, c308_36, rfl, by rw [k308]; exact tg12_290, rfl⟩
theorem q308_49 : pm_cF 308 49 52 222 1 4 := ⟨_, _, _, _, c308_49, rfl, by rw [k308]; exact tg12_207, rfl⟩
theorem tg12_444 : pm_tg 12 444 = some (309, 2, 0, false) := by decide +kernel
theorem q308_59 : pm_cF 308 59 62 309 0 2 := ⟨_, _, _, _, c308_59, rfl, by rw [k308]; exact tg12_444, rfl⟩
theorem ct12_448 : pm_ct 12 448 = some (.long 16) := by decide +kernel
theorem v308_62 : pm_kF2 308 62 65 (.long 16) := ⟨_, c308_62, by rw [k308]; exact ct12_448⟩
theorem tg12_440 : pm_tg 12 440 = some (310, 2, 0, false) := by decide +kernel
theorem q308_66 : pm_cF 308 66 69 310 0 2 := ⟨_, _, _, _, c308_66, rfl, by rw [k308]; exact tg12_440, rfl⟩
theorem tg12_450 : pm_tg 12 450 = some (311, 3, 0, false) := by decide +kernel
theorem q308_70 : pm_cF 308 70 73 311 0 3 := ⟨_, _, _, _, c308_70, rfl, by rw [k308]; exact tg12_450, rfl⟩
theorem q309_56 : pm_cF 309 56 59 310 0 2 := ⟨_, _, _, _, c309_56, rfl, by rw [k309]; exact tg12_440, rfl⟩
theorem q309_68 : pm_cF 309 68 71 310 0 2 := ⟨_, _, _, _, c309_68, rfl, by rw [k309]; exact tg12_440, rfl⟩
theorem p312_2 : pm_pF 312 2 5 12 0 0 := ⟨_, c312_2, by rw [k312]; exact fd12_3, by decide, by decide +kernel⟩
theorem q312_10 : pm_cF 312 10 13 241 0 3 := ⟨_, _, _, _, c312_10, rfl, by rw [k312]; exact tg12_290, rfl⟩
theorem q312_20 : pm_cF 312 20 23 241 0 3 := ⟨_, _, _, _, c312_20, rfl, by rw [k312]; exact tg12_290, rfl⟩
theorem q312_33 : pm_cF 312 33 36 222 1 4 := ⟨_, _, _, _, c312_33, rfl, by rw [k312]; exact tg12_207, rfl⟩
theorem v312_49 : pm_kF2 312 49 52 (.long 16) := ⟨_, c312_49, by rw [k312]; exact ct12_448⟩
theorem q312_54 : pm_cF 312 54 57 309 0 2 := ⟨_, _, _, _, c312_54, rfl, by rw [k312]; exact tg12_444, rfl⟩
theorem v312_60 : pm_kF2 312 60 63 (.long 16) := ⟨_, c312_60, by rw [k312]; exact ct12_448⟩
theorem q312_64 : pm_cF 312 64 67 310 0 2 := ⟨_, _, _, _, c312_64, rfl, by rw [k312]; exact tg12_440, rfl⟩
theorem p313_2 : pm_pF 313 2 5 12 0 0 := ⟨_, c313_2, by rw [k313]; exact fd12_3, by decide, by decide +kernel⟩
theorem q313_11 : pm_cF 313 11 14 241 0 3 := ⟨_, _, _, _, c313_11, rfl, by rw [k313]; exact tg12_290, rfl⟩
theorem q313_22 : pm_cF 313 22 25 241 0 3 := ⟨_, _, _, _, c313_22, rfl, by rw [k313]; exact tg12_290, rfl⟩
theorem q313_32 : pm_cF 313 32 35 241 0 3 := ⟨_, _, _, _, c313_32, rfl, by rw [k313]; exact tg12_290, rfl⟩
theorem q313_45 : pm_cF 313 45 48 222 1 4 := ⟨_, _, _, _, c313_45, rfl, by rw [k313]; exact tg12_207, rfl⟩
theorem ct12_453 : pm_ct 12 453 = some (.long 1000000000) := by decide +kernel
theorem v313_70 : pm_kF2 313 70 73 (.long 1000000000) := ⟨_, c313_70, by rw [k313]; exact ct12_453⟩
theorem ct12_455 : pm_ct 12 455 = some (.long 1000) := by decide +kernel
theorem v313_94 : pm_kF2 313 94 97 (.long 1000) := ⟨_, c313_94, by rw [k313]; exact ct12_455⟩
theorem p314_2 : pm_pF 314 2 5 12 0 0 := ⟨_, c314_2, by rw [k314]; exact fd12_3, by decide, by decide +kernel⟩
theorem q314_8 : pm_cF 314 8 11 279 1 3 := ⟨_, _, _, _, c314_8, rfl, by rw [k314]; exact tg12_407, rfl⟩
theorem q314_19 : pm_cF 314 19 22 241 0 3 := ⟨_, _, _, _, c314_19, rfl, by rw [k314]; exact tg12_290, rfl⟩
theorem q314_24 : pm_cF 314 24 27 222 1 4 := ⟨_, _, _, _, c314_24, rfl, by rw [k314]; exact tg12_207, rfl⟩
theorem q314_33 : pm_cF 314 33 36 253 1 1 := ⟨_, _, _, _, c314_33, rfl, by rw [k314]; exact tg12_330, rfl⟩
theorem g314_44 : pm_gF 314 44 47 12 54 2 := ⟨_, c314_44, by rw [k314]; exact fd12_99⟩
theorem g314_72 : pm_gF 314 72 75 12 19 0 := ⟨_, c314_72, by rw [k314]; exact fd12_172⟩
theorem q314_81 : pm_cF 314 81 84 259 1 2 := ⟨_, _, _, _, c314_81, rfl, by rw [k314]; exact tg12_377, rfl⟩
theorem q314_96 : pm_cF 314 96 99 259 1 2 := ⟨_, _, _, _, c314_96, rfl, by rw [k314]; exact tg12_377, rfl⟩
theorem g314_101 : pm_gF 314 101 104 12 54 2 := ⟨_, c314_101, by rw [k314]; exact fd12_99⟩
theorem q314_112 : pm_cF 314 112 115 259 1 2 := ⟨_, _, _, _, c314_112, rfl, by rw [k314]; exact tg12_377, rfl⟩
theorem g314_117 : pm_gF 314 117 120 12 54 2 := ⟨_, c314_117, by rw [k314]; exact fd12_99⟩
theorem g314_145 : pm_gF 314 145 148 12 54 2 := ⟨_, c314_145, by rw [k314]; exact fd12_99⟩
theorem g314_162 : pm_gF 314 162 165 12 54 2 := ⟨_, c314_162, by rw [k314]; exact fd12_99⟩
theorem p315_2 : pm_pF 315 2 5 12 0 0 := ⟨_, c315_2, by rw [k315]; exact fd12_3, by decide, by decide +kernel⟩
theorem q315_10 : pm_cF 315 10 13 241 0 3 := ⟨_, _, _, _, c315_10, rfl, by rw [k315]; exact tg12_290, rfl⟩
theorem q315_20 : pm_cF 315 20 23 241 0 3 := ⟨_, _, _, _, c315_20, rfl, by rw [k315]; exact tg12_290, rfl⟩
theorem q315_30 : pm_cF 315 30 33 241 0 3 := ⟨_, _, _, _, c315_30, rfl, by rw [k315]; exact tg12_290, rfl⟩
theorem q315_40 : pm_cF 315 40 43 241 0 3 := ⟨_, _, _, _, c315_40, rfl, by rw [k315]; exact tg12_290, rfl⟩
theorem q315_53 : pm_cF 315 53 56 222 1 4 := ⟨_, _, _, _, c315_53, rfl, by rw [k315]; exact tg12_207, rfl⟩
theorem tg12_460 : pm_tg 12 460 = some (316, 5, 0, false) := by decide +kernel
theorem q315_97 : pm_cF 315 97 100 316 0 5 := ⟨_, _, _, _, c315_97, rfl, by rw [k315]; exact tg12_460, rfl⟩
theorem tg12_457 : pm_tg 12 457 = some (317, 3, 0, false) := by decide +kernel
theorem q315_186 : pm_cF 315 186 189 317 0 3 := ⟨_, _, _, _, c315_186, rfl, by rw [k315]; exact tg12_457, rfl⟩
theorem q315_200 : pm_cF 315 200 203 317 0 3 := ⟨_, _, _, _, c315_200, rfl, by rw [k315]; exact tg12_457, rfl⟩
theorem q316_13 : pm_cF 316 13 16 317 0 3 := ⟨_, _, _, _, c316_13, rfl, by rw [k316]; exact tg12_457, rfl⟩
theorem q316_19 : pm_cF 316 19 22 317 0 3 := ⟨_, _, _, _, c316_19, rfl, by rw [k316]; exact tg12_457, rfl⟩
theorem q316_30 : pm_cF 316 30 33 317 0 3 := ⟨_, _, _, _, c316_30, rfl, by rw [k316]; exact tg12_457, rfl⟩
theorem q316_37 : pm_cF 316 37 40 317 0 3 := ⟨_, _, _, _, c316_37, rfl, by rw [k316]; exact tg12_457, rfl⟩
theorem p318_2 : pm_pF 318 2 5 12 0 0 := ⟨_, c318_2, by rw [k318]; exact fd12_3, by decide, by decide +kernel⟩
theorem q318_10 : pm_cF 318 10 13 241 0 3 := ⟨_, _, _, _, c318_10, rfl, by rw [k318]; exact tg12_290, rfl⟩
theorem q318_20 : pm_cF 318 20 23 241 0 3 := ⟨_, _, _, _, c318_20, rfl, by rw [k318]; exact tg12_290, rfl⟩
theorem q318_30 : pm_cF 318 30 33 241 0 3 := ⟨_, _, _, _, c318_30, rfl, by rw [k318]; exact tg12_290, rfl⟩
theorem q318_43 : pm_cF 318 43 46 222 1 4 := ⟨_, _, _, _, c318_43, rfl, by rw [k318]; exact tg12_207, rfl⟩
theorem q318_54 : pm_cF 318 54 57 317 0 3 := ⟨_, _, _, _, c318_54, rfl, by rw [k318]; exact tg12_457, rfl⟩
theorem p319_2 : pm_pF 319 2 5 12 0 0 := ⟨_, c319_2, by rw [k319]; exact fd12_3, by decide, by decide +kernel⟩
theorem tg12_474 : pm_tg 12 474 = some (320, 3, 0, false) := by decide +kernel
theorem q319_10 : pm_cF 319 10 13 320 0 3 := ⟨_, _, _, _, c319_10, rfl, by rw [k319]; exact tg12_474, rfl⟩
theorem q319_20 : pm_cF 319 20 23 241 0 3 := ⟨_, _, _, _, c319_20, rfl, by rw [k319]; exact tg12_290, rfl⟩
theorem q319_33 : pm_cF 319 33 36 222 1 4 := ⟨_, _, _, _, c319_33, rfl, by rw [k319]; exact tg12_207, rfl⟩
theorem tg12_477 : pm_tg 12 477 = some (321, 4, 1, false) := by decide +kernel
theorem q319_47 : pm_cF 319 47 50 321 1 5 := ⟨_, _, _, _, c319_47, rfl, by rw [k319]; exact tg12_477, rfl⟩
theorem g319_56 : pm_gF 319 56 59 12 41 0 := ⟨_, c319_56, by rw [k319]; exact fd12_351⟩
theorem g319_69 : pm_gF 319 69 72 12 38 2 := ⟨_, c319_69, by rw [k319]; exact fd12_65⟩
theorem fd12_468 : pm_fd 12 468 = some (12, 56, 0) := by decide +kernel
theorem g319_85 : pm_gF 319 85 88 12 56 0 := ⟨_, c319_85, by rw [k319]; exact fd12_468⟩
theorem q319_93 : pm_cF 319 93 96 257 1 2 := ⟨_, _, _, _, c319_93, rfl, by rw [k319]; exact tg12_374, rfl⟩
theorem q321_1 : pm_cF 321 1 4 253 1 1 := ⟨_, _, _, _, c321_1, rfl, by rw [k321]; exact tg12_330, rfl⟩
theorem fd12_464 : pm_fd 12 464 = some (12, 55, 0) := by decide +kernel
theorem p321_6 : pm_pF 321 6 9 12 55 0 := ⟨_, c321_6, by rw [k321]; exact fd12_464, by decide, by decide +kernel⟩
theorem p321_11 : pm_pF 321 11 14 12 56 0 := ⟨_, c321_11, by rw [k321]; exact fd12_468, by decide, by decide +kernel⟩
theorem tg12_471 : pm_tg 12 471 = some (322, 0, 1, false) := by decide +kernel
theorem q321_25 : pm_cF 321 25 28 322 1 1 := ⟨_, _, _, _, c321_25, rfl, by rw [k321]; exact tg12_471, rfl⟩
theorem g321_34 : pm_gF 321 34 37 12 56 0 := ⟨_, c321_34, by rw [k321]; exact fd12_468⟩
theorem p321_39 : pm_pF 321 39 42 12 56 0 := ⟨_, c321_39, by rw [k321]; exact fd12_468, by decide, by decide +kernel⟩
theorem g321_43 : pm_gF 321 43 46 12 38 2 := ⟨_, c321_43, by rw [k321]; exact fd12_65⟩
theorem g321_49 : pm_gF 321 49 52 12 38 2 := ⟨_, c321_49, by rw [k321]; exact fd12_65⟩
theorem g321_60 : pm_gF 321 60 63 12 38 2 := ⟨_, c321_60, by rw [k321]; exact fd12_65⟩
theorem q321_74 : pm_cF 321 74 77 272 1 1 := ⟨_, _, _, _, c321_74, rfl, by rw [k321]; exact tg12_401, rfl⟩
theorem g322_2 : pm_gF 322 2 5 12 55 0 := ⟨_, c322_2, by rw [k322]; exact fd12_464⟩
theorem ct12_467 : pm_ct 12 467 = some (.int 1103515245) := by decide +kernel
theorem v322_5 : pm_kF 322 5 8 (.int 1103515245) := ⟨_, _, c322_5, Or.inr rfl, by rw [k322]; exact ct12_467⟩
theorem p322_13 : pm_pF 322 13 16 12 55 0 := ⟨_, c322_13, by rw [k322]; exact fd12_464, by decide, by decide +kernel⟩
theorem g322_17 : pm_gF 322 17 20 12 55 0 := ⟨_, c322_17, by rw [k322]; exact fd12_464⟩
theorem p323_2 : pm_pF 323 2 5 12 0 0 := ⟨_, c323_2, by rw [k323]; exact fd12_3, by decide, by decide +kernel⟩
theorem q323_10 : pm_cF 323 10 13 241 0 3 := ⟨_, _, _, _, c323_10, rfl, by rw [k323]; exact tg12_290, rfl⟩
theorem q323_21 : pm_cF 323 21 24 320 0 3 := ⟨_, _, _, _, c323_21, rfl, by rw [k323]; exact tg12_474, rfl⟩
theorem q323_31 : pm_cF 323 31 34 241 0 3 := ⟨_, _, _, _, c323_31, rfl, by rw [k323]; exact tg12_290, rfl⟩
theorem q323_44 : pm_cF 323 44 47 222 1 4 := ⟨_, _, _, _, c323_44, rfl, by rw [k323]; exact tg12_207, rfl⟩
theorem q323_80 : pm_cF 323 80 83 321 1 5 := ⟨_, _, _, _, c323_80, rfl, by rw [k323]; exact tg12_477, rfl⟩
theorem g323_90 : pm_gF 323 90 93 12 41 0 := ⟨_, c323_90, by rw [k323]; exact fd12_351⟩
theorem g323_99 : pm_gF 323 99 102 12 41 0 := ⟨_, c323_99, by rw [k323]; exact fd12_351⟩
theorem g323_110 : pm_gF 323 110 113 12 41 0 := ⟨_, c323_110, by rw [k323]; exact fd12_351⟩
theorem g323_119 : pm_gF 323 119 122 12 41 0 := ⟨_, c323_119, by rw [k323]; exact fd12_351⟩
theorem g323_132 : pm_gF 323 132 135 12 41 0 := ⟨_, c323_132, by rw [k323]; exact fd12_351⟩
theorem p324_2 : pm_pF 324 2 5 12 0 0 := ⟨_, c324_2, by rw [k324]; exact fd12_3, by decide, by decide +kernel⟩
theorem g324_6 : pm_gF 324 6 9 12 58 0 := ⟨_, c324_6, by rw [k324]; exact fd12_188⟩
theorem g324_17 : pm_gF 324 17 20 12 58 0 := ⟨_, c324_17, by rw [k324]; exact fd12_188⟩
theorem tg12_485 : pm_tg 12 485 = some (325, 2, 1, false) := by decide +kernel
theorem q324_21 : pm_cF 324 21 24 325 1 3 := ⟨_, _, _, _, c324_21, rfl, by rw [k324]; exact tg12_485, rfl⟩
theorem g324_26 : pm_gF 324 26 29 12 58 0 := ⟨_, c324_26, by rw [k324]; exact fd12_188⟩
theorem p324_31 : pm_pF 324 31 34 12 58 0 := ⟨_, c324_31, by rw [k324]; exact fd12_188, by decide, by decide +kernel⟩
theorem g324_35 : pm_gF 324 35 38 12 58 0 := ⟨_, c324_35, by rw [k324]; exact fd12_188⟩
theorem g325_7 : pm_gF 325 7 10 12 37 2 := ⟨_, c325_7, by rw [k325]; exact fd12_62⟩
theorem tg12_481 : pm_tg 12 481 = some (326, 4, 1, false) := by decide +kernel
theorem q325_13 : pm_cF 325 13 16 326 1 5 := ⟨_, _, _, _, c325_13, rfl, by rw [k325]; exact tg12_481, rfl⟩
theorem g325_20 : pm_gF 325 20 23 12 39 2 := ⟨_, c325_20, by rw [k325]; exact fd12_68⟩
theorem q325_27 : pm_cF 325 27 30 326 1 5 := ⟨_, _, _, _, c325_27, rfl, by rw [k325]; exact tg12_481, rfl⟩
theorem g325_36 : pm_gF 325 36 39 12 57 2 := ⟨_, c325_36, by rw [k325]; exact fd12_102⟩
theorem g325_41 : pm_gF 325 41 44 12 32 0 := ⟨_, c325_41, by rw [k325]; exact fd12_185⟩
theorem g325_50 : pm_gF 325 50 53 12 57 2 := ⟨_, c325_50, by rw [k325]; exact fd12_102⟩
theorem p325_55 : pm_pF 325 55 58 12 32 0 := ⟨_, c325_55, by rw [k325]; exact fd12_185, by decide, by decide +kernel⟩
theorem g326_15 : pm_gF 326 15 18 12 57 2 := ⟨_, c326_15, by rw [k326]; exact fd12_102⟩
theorem g326_34 : pm_gF 326 34 37 12 57 2 := ⟨_, c326_34, by rw [k326]; exact fd12_102⟩
theorem p327_2 : pm_pF 327 2 5 12 0 0 := ⟨_, c327_2, by rw [k327]; exact fd12_3, by decide, by decide +kernel⟩
theorem g327_6 : pm_gF 327 6 9 12 58 0 := ⟨_, c327_6, by rw [k327]; exact fd12_188⟩
theorem g327_16 : pm_gF 327 16 19 12 58 0 := ⟨_, c327_16, by rw [k327]; exact fd12_188⟩
theorem p327_21 : pm_pF 327 21 24 12 58 0 := ⟨_, c327_21, by rw [k327]; exact fd12_188, by decide, by decide +kernel⟩
theorem g327_26 : pm_gF 327 26 29 12 58 0 := ⟨_, c327_26, by rw [k327]; exact fd12_188⟩
theorem q327_30 : pm_cF 327 30 33 325 1 3 := ⟨_, _, _, _, c327_30, rfl, by rw [k327]; exact tg12_485, rfl⟩
theorem p327_35 : pm_pF 327 35 38 12 33 0 := ⟨_, c327_35, by rw [k327]; exact fd12_191, by decide, by decide +kernel⟩
theorem g327_39 : pm_gF 327 39 42 12 58 0 := ⟨_, c327_39, by rw [k327]; exact fd12_188⟩
theorem p328_2 : pm_pF 328 2 5 12 0 0 := ⟨_, c328_2, by rw [k328]; exact fd12_3, by decide, by decide +kernel⟩
theorem q328_8 : pm_cF 328 8 11 241 0 3 := ⟨_, _, _, _, c328_8, rfl, by rw [k328]; exact tg12_290, rfl⟩
theorem g328_15 : pm_gF 328 15 18 12 1 2 := ⟨_, c328_15, by rw [k328]; exact fd12_7⟩
theorem p329_2 : pm_pF 329 2 5 12 0 0 := ⟨_, c329_2, by rw [k329]; exact fd12_3, by decide, by decide +kernel⟩
theorem g329_10 : pm_gF 329 10 13 12 58 0 := ⟨_, c329_10, by rw [k329]; exact fd12_188⟩
theorem g329_22 : pm_gF 329 22 25 12 2 0 := ⟨_, c329_22, by rw [k329]; exact fd12_111⟩
theorem g329_34 : pm_gF 329 34 37 12 32 0 := ⟨_, c329_34, by rw [k329]; exact fd12_185⟩
theorem tg13_7 : pm_tg 13 7 = some (172, 1, 1, false) := by decide +kernel
theorem q330_4 : pm_cF 330 4 7 172 1 2 := ⟨_, _, _, _, c330_4, rfl, by rw [k330]; exact tg13_7, rfl⟩
theorem tg13_15 : pm_tg 13 15 = some (175, 2, 1, false) := by decide +kernel
theorem q331_5 : pm_cF 331 5 8 175 1 3 := ⟨_, _, _, _, c331_5, rfl, by rw [k331]; exact tg13_15, rfl⟩
theorem tg13_19 : pm_tg 13 19 = some (176, 1, 1, false) := by decide +kernel
theorem q332_4 : pm_cF 332 4 7 176 1 2 := ⟨_, _, _, _, c332_4, rfl, by rw [k332]; exact tg13_19, rfl⟩
theorem tg13_22 : pm_tg 13 22 = some (177, 1, 1, false) := by decide +kernel
theorem q333_4 : pm_cF 333 4 7 177 1 2 := ⟨_, _, _, _, c333_4, rfl, by rw [k333]; exact tg13_22, rfl⟩
theorem tg13_25 : pm_tg 13 25 = some (178, 1, 1, false) := by decide +kernel
theorem q334_4 : pm_cF 334 4 7 178 1 2 := ⟨_, _, _, _, c334_4, rfl, by rw [k334]; exact tg13_25, rfl⟩
theorem tg13_28 : pm_tg 13 28 = some (179, 2, 1, false) := by decide +kernel
theorem q335_5 : pm_cF 335 5 8 179 1 3 := ⟨_, _, _, _, c335_5, rfl, by rw [k335]; exact tg13_28, rfl⟩
theorem tg13_33 : pm_tg 13 33 = some (181, 2, 1, false) := by decide +kernel
theorem q336_5 : pm_cF 336 5 8 181 1 3 := ⟨_, _, _, _, c336_5, rfl, by rw [k336]; exact tg13_33, rfl⟩
theorem tg13_36 : pm_tg 13 36 = some (183, 2, 1, false) := by decide +kernel
theorem q337_5 : pm_cF 337 5 8 183 1 3 := ⟨_, _, _, _, c337_5, rfl, by rw [k337]; exact tg13_36, rfl⟩
theorem tg13_39 : pm_tg 13 39 = some (184, 1, 1, false) := by decide +kernel
theorem q338_4 : pm_cF 338 4 7 184 1 2 := ⟨_, _, _, _, c338_4, rfl, by rw [k338]; exact tg13_39, rfl⟩
theorem tg13_42 : pm_tg 13 42 = some (185, 6, 1, false) := by decide +kernel
theorem q339_13 : pm_cF 339 13 16 185 1 7 := ⟨_, _, _, _, c339_13, rfl, by rw [k339]; exact tg13_42, rfl⟩
theorem tg13_46 : pm_tg 13 46 = some (186, 1, 1, false) := by decide +kernel
theorem q340_4 : pm_cF 340 4 7 186 1 2 := ⟨_, _, _, _, c340_4, rfl, by rw [k340]; exact tg13_46, rfl⟩
theorem tg13_49 : pm_tg 13 49 = some (187, 1, 1, false) := by decide +kernel
theorem q341_4 : pm_cF 341 4 7 187 1 2 := ⟨_, _, _, _, c341_4, rfl, by rw [k341]; exact tg13_49, rfl⟩
theorem tg13_52 : pm_tg 13 52 = some (188, 2, 1, false) := by decide +kernel
theorem q342_5 : pm_cF 342 5 8 188 1 3 := ⟨_, _, _, _, c342_5, rfl, by rw [k342]; exact tg13_52, rfl⟩
theorem tg13_55 : pm_tg 13 55 = some (189, 2, 1, false) := by decide +kernel
theorem q343_5 : pm_cF 343 5 8 189 1 3 := ⟨_, _, _, _, c343_5, rfl, by rw [k343]; exact tg13_55, rfl⟩
theorem tg13_58 : pm_tg 13 58 = some (190, 1, 1, false) := by decide +kernel
theorem q344_4 : pm_cF 344 4 7 190 1 2 := ⟨_, _, _, _, c344_4, rfl, by rw [k344]; exact tg13_58, rfl⟩
theorem tg13_61 : pm_tg 13 61 = some (191, 1, 1, false) := by decide +kernel
theorem q345_4 : pm_cF 345 4 7 191 1 2 := ⟨_, _, _, _, c345_4, rfl, by rw [k345]; exact tg13_61, rfl⟩
theorem tg13_64 : pm_tg 13 64 = some (192, 1, 1, false) := by decide +kernel
theorem q346_4 : pm_cF 346 4 7 192 1 2 := ⟨_, _, _, _, c346_4, rfl, by rw [k346]; exact tg13_64, rfl⟩
theorem tg13_67 : pm_tg 13 67 = some (193, 1, 1, false) := by decide +kernel
theorem q347_4 : pm_cF 347 4 7 193 1 2 := ⟨_, _, _, _, c347_4, rfl, by rw [k347]; exact tg13_67, rfl⟩
theorem tg13_70 : pm_tg 13 70 = some (194, 1, 1, false) := by decide +kernel
theorem q348_4 : pm_cF 348 4 7 194 1 2 := ⟨_, _, _, _, c348_4, rfl, by rw [k348]; exact tg13_70, rfl⟩
theorem tg13_74 : pm_tg 13 74 = some (195, 1, 1, false) := by decide +kernel
theorem q349_4 : pm_cF 349 4 7 195 1 2 := ⟨_, _, _, _, c349_4, rfl, by rw [k349]; exact tg13_74, rfl⟩
theorem tg13_77 : pm_tg 13 77 = some (196, 1, 1, false) := by decide +kernel
theorem q350_4 : pm_cF 350 4 7 196 1 2 := ⟨_, _, _, _, c350_4, rfl, by rw [k350]; exact tg13_77, rfl⟩
theorem tg13_80 : pm_tg 13 80 = some (197, 2, 1, false) := by decide +kernel
theorem q351_5 : pm_cF 351 5 8 197 1 3 := ⟨_, _, _, _, c351_5, rfl, by rw [k351]; exact tg13_80, rfl⟩
theorem tg13_83 : pm_tg 13 83 = some (198, 2, 1, false) := by decide +kernel
theorem q352_5 : pm_cF 352 5 8 198 1 3 := ⟨_, _, _, _, c352_5, rfl, by rw [k352]; exact tg13_83, rfl⟩
theorem tg13_86 : pm_tg 13 86 = some (199, 3, 1, false) := by decide +kernel
theorem q353_7 : pm_cF 353 7 10 199 1 4 := ⟨_, _, _, _, c353_7, rfl, by rw [k353]; exact tg13_86, rfl⟩
theorem tg13_90 : pm_tg 13 90 = some (204, 2, 1, false) := by decide +kernel
theorem q354_5 : pm_cF 354 5 8 204 1 3 := ⟨_, _, _, _, c354_5, rfl, by rw [k354]; exact tg13_90, rfl⟩
theorem tg13_93 : pm_tg 13 93 = some (205, 3, 1, false) := by decide +kernel
theorem q355_7 : pm_cF 355 7 10 205 1 4 := ⟨_, _, _, _, c355_7, rfl, by rw [k355]; exact tg13_93, rfl⟩
theorem tg13_97 : pm_tg 13 97 = some (206, 2, 1, false) := by decide +kernel
theorem q356_5 : pm_cF 356 5 8 206 1 3 := ⟨_, _, _, _, c356_5, rfl, by rw [k356]; exact tg13_97, rfl⟩
theorem tg13_100 : pm_tg 13 100 = some (207, 4, 1, false) := by decide +kernel
theorem q357_9 : pm_cF 357 9 12 207 1 5 := ⟨_, _, _, _, c357_9, rfl, by rw [k357]; exact tg13_100, rfl⟩
theorem tg13_104 : pm_tg 13 104 = some (210, 3, 1, false) := by decide +kernel
theorem q358_7 : pm_cF 358 7 10 210 1 4 := ⟨_, _, _, _, c358_7, rfl, by rw [k358]; exact tg13_104, rfl⟩
theorem tg13_107 : pm_tg 13 107 = some (211, 5, 1, false) := by decide +kernel
theorem q359_11 : pm_cF 359 11 14 211 1 6 := ⟨_, _, _, _, c359_11, rfl, by rw [k359]; exact tg13_107, rfl⟩
theorem tg13_111 : pm_tg 13 111 = some (213, 6, 1, false) := by decide +kernel
theorem q360_13 : pm_cF 360 13 16 213 1 7 := ⟨_, _, _, _, c360_13, rfl, by rw [k360]; exact tg13_111, rfl⟩
theorem tg13_114 : pm_tg 13 114 = some (158, 0, 2, false) := by decide +kernel
theorem tg13_117 : pm_tg 13 117 = some (215, 0, 2, false) := by decide +kernel
theorem tg13_118 : pm_tg 13 118 = some (161, 5, 1, false) := by decide +kernel
theorem tg13_121 : pm_tg 13 121 = some (219, 5, 1, false) := by decide +kernel
theorem tg13_122 : pm_tg 13 122 = some (330, 3, 0, false) := by decide +kernel
theorem tg13_127 : pm_tg 13 127 = some (221, 1, 1, false) := by decide +kernel
theorem tg13_128 : pm_tg 13 128 = some (214, 0, 1, false) := by decide +kernel
theorem tg13_132 : pm_tg 13 132 = some (331, 4, 0, false) := by decide +kernel
theorem tg13_135 : pm_tg 13 135 = some (240, 2, 1, false) := by decide +kernel
theorem tg13_136 : pm_tg 13 136 = some (332, 3, 0, false) := by decide +kernel
theorem tg13_138 : pm_tg 13 138 = some (249, 1, 1, false) := by decide +kernel
theorem tg13_139 : pm_tg 13 139 = some (333, 3, 0, false) := by decide +kernel
theorem tg13_141 : pm_tg 13 141 = some (273, 1, 1, false) := by decide +kernel
theorem tg13_142 : pm_tg 13 142 = some (162, 0, 1, false) := by decide +kernel
theorem tg13_145 : pm_tg 13 145 = some (220, 0, 1, false) := by decide +kernel
theorem tg13_146 : pm_tg 13 146 = some (163, 0, 1, false) := by decide +kernel
theorem tg13_149 : pm_tg 13 149 = some (274, 0, 1, false) := by decide +kernel
theorem tg13_150 : pm_tg 13 150 = some (334, 3, 0, false) := by decide +kernel
theorem tg13_152 : pm_tg 13 152 = some (275, 1, 1, false) := by decide +kernel
theorem tg13_153 : pm_tg 13 153 = some (335, 4, 0, false) := by decide +kernel
theorem tg13_155 : pm_tg 13 155 = some (276, 2, 1, false) := by decide +kernel
theorem tg13_156 : pm_tg 13 156 = some (336, 4, 0, false) := by decide +kernel
theorem tg13_158 : pm_tg 13 158 = some (278, 2, 1, false) := by decide +kernel
theorem tg13_159 : pm_tg 13 159 = some (337, 4, 0, false) := by decide +kernel
theorem tg13_161 : pm_tg 13 161 = some (280, 2, 1, false) := by decide +kernel
theorem tg13_162 : pm_tg 13 162 = some (338, 3, 0, false) := by decide +kernel
theorem tg13_164 : pm_tg 13 164 = some (281, 1, 1, false) := by decide +kernel
theorem tg13_165 : pm_tg 13 165 = some (339, 8, 0, false) := by decide +kernel
theorem tg13_168 : pm_tg 13 168 = some (282, 6, 1, false) := by decide +kernel
theorem tg13_169 : pm_tg 13 169 = some (165, 0, 1, false) := by decide +kernel
theorem tg13_172 : pm_tg 13 172 = some (283, 0, 1, false) := by decide +kernel
theorem tg13_173 : pm_tg 13 173 = some (340, 3, 0, false) := by decide +kernel
theorem tg13_175 : pm_tg 13 175 = some (284, 1, 1, false) := by decide +kernel
theorem tg13_176 : pm_tg 13 176 = some (341, 3, 0, false) := by decide +kernel
theorem tg13_178 : pm_tg 13 178 = some (286, 1, 1, false) := by decide +kernel
theorem tg13_179 : pm_tg 13 179 = some (342, 4, 0, false) := by decide +kernel
theorem tg13_181 : pm_tg 13 181 = some (287, 2, 1, false) := by decide +kernel
theorem tg13_182 : pm_tg 13 182 = some (343, 4, 0, false) := by decide +kernel
theorem tg13_184 : pm_tg 13 184 = some (288, 2, 1, false) := by decide +kernel
theorem tg13_185 : pm_tg 13 185 = some (344, 3, 0, false) := by decide +kernel
theorem tg13_187 : pm_tg 13 187 = some (290, 1, 1, false) := by decide +kernel
theorem tg13_188 : pm_tg 13 188 = some (345, 3, 0, false) := by decide +kernel
theorem tg13_190 : pm_tg 13 190 = some (294, 1, 1, false) := by decide +kernel
theorem tg13_191 : pm_tg 13 191 = some (166, 0, 1, false) := by decide +kernel
theorem tg13_194 : pm_tg 13 194 = some (295, 0, 1, false) := by decide +kernel
theorem tg13_195 : pm_tg 13 195 = some (346, 3, 0, false) := by decide +kernel
theorem tg13_197 : pm_tg 13 197 = some (296, 1, 1, false) := by decide +kernel
theorem tg13_198 : pm_tg 13 198 = some (347, 3, 0, false) := by decide +kernel
theorem tg13_200 : pm_tg 13 200 = some (297, 1, 1, false) := by decide +kernel
theorem tg13_201 : pm_tg 13 201 = some (348, 3, 0, false) := by decide +kernel
theorem tg13_203 : pm_tg 13 203 = some (298, 1, 1, false) := by decide +kernel
theorem tg13_204 : pm_tg 13 204 = some (349, 3, 0, false) := by decide +kernel
theorem tg13_206 : pm_tg 13 206 = some (299, 1, 1, false) := by decide +kernel
theorem tg13_207 : pm_tg 13 207 = some (350, 3, 0, false) := by decide +kernel
theorem tg13_209 : pm_tg 13 209 = some (300, 1, 1, false) := by decide +kernel
theorem tg13_210 : pm_tg 13 210 = some (167, 0, 1, false) := by decide +kernel
theorem tg13_213 : pm_tg 13 213 = some (301, 0, 1, false) := by decide +kernel
theorem tg13_214 : pm_tg 13 214 = some (351, 4, 0, false) := by decide +kernel
theorem tg13_216 : pm_tg 13 216 = some (302, 2, 1, false) := by decide +kernel
theorem tg13_217 : pm_tg 13 217 = some (352, 4, 0, false) := by decide +kernel
theorem tg13_219 : pm_tg 13 219 = some (305, 2, 1, false) := by decide +kernel
theorem tg13_220 : pm_tg 13 220 = some (353, 5, 0, false) := by decide +kernel
theorem tg13_223 : pm_tg 13 223 = some (308, 3, 1, false) := by decide +kernel
theorem tg13_224 : pm_tg 13 224 = some (354, 4, 0, false) := by decide +kernel
theorem tg13_226 : pm_tg 13 226 = some (312, 2, 1, false) := by decide +kernel
theorem tg13_227 : pm_tg 13 227 = some (355, 5, 0, false) := by decide +kernel
theorem tg13_229 : pm_tg 13 229 = some (313, 3, 1, false) := by decide +kernel
theorem tg13_230 : pm_tg 13 230 = some (356, 4, 0, false) := by decide +kernel
theorem tg13_232 : pm_tg 13 232 = some (314, 2, 1, false) := by decide +kernel
theorem tg13_233 : pm_tg 13 233 = some (357, 6, 0, false) := by decide +kernel
theorem tg13_236 : pm_tg 13 236 = some (315, 4, 1, false) := by decide +kernel
theorem tg13_237 : pm_tg 13 237 = some (358, 5, 0, false) := by decide +kernel
theorem tg13_239 : pm_tg 13 239 = some (318, 3, 1, false) := by decide +kernel
theorem tg13_240 : pm_tg 13 240 = some (359, 7, 0, false) := by decide +kernel
theorem tg13_243 : pm_tg 13 243 = some (319, 5, 1, false) := by decide +kernel
theorem tg13_244 : pm_tg 13 244 = some (360, 8, 0, false) := by decide +kernel
theorem tg13_246 : pm_tg 13 246 = some (323, 6, 1, false) := by decide +kernel
theorem tg13_247 : pm_tg 13 247 = some (168, 0, 1, false) := by decide +kernel
theorem tg13_250 : pm_tg 13 250 = some (324, 0, 1, false) := by decide +kernel
theorem tg13_251 : pm_tg 13 251 = some (169, 0, 1, false) := by decide +kernel
theorem tg13_254 : pm_tg 13 254 = some (327, 0, 1, false) := by decide +kernel
theorem tg13_255 : pm_tg 13 255 = some (170, 1, 1, false) := by decide +kernel
theorem tg13_258 : pm_tg 13 258 = some (328, 1, 1, false) := by decide +kernel
theorem tg13_259 : pm_tg 13 259 = some (171, 1, 1, false) := by decide +kernel
theorem tg13_262 : pm_tg 13 262 = some (329, 1, 1, false) := by decide +kernel
theorem ct15_265 : pm_ct 15 265 = some (.int 1431655765) := by decide +kernel
theorem v365_4 : pm_kF 365 4 7 (.int 1431655765) := ⟨_, _, c365_4, Or.inr rfl, by rw [k365]; exact ct15_265⟩
theorem ct15_266 : pm_ct 15 266 = some (.int 858993459) := by decide +kernel
theorem v365_11 : pm_kF 365 11 14 (.int 858993459) := ⟨_, _, c365_11, Or.inr rfl, by rw [k365]; exact ct15_266⟩
theorem v365_18 : pm_kF 365 18 21 (.int 858993459) := ⟨_, _, c365_18, Or.inr rfl, by rw [k365]; exact ct15_266⟩
theorem ct15_267 : pm_ct 15 267 = some (.int 252645135) := by decide +kernel
theorem v365_29 : pm_kF 365 29 32 (.int 252645135) := ⟨_, _, c365_29, Or.inr rfl, by rw [k365]; exact ct15_267⟩
theorem tg16_335 : pm_tg 16 335 = some (367, 0, 1, false) := by decide +kernel
theorem q366_6 : pm_cF 366 6 9 367 1 1 := ⟨_, _, _, _, c366_6, rfl, by rw [k366]; exact tg16_335, rfl⟩
theorem tg16_492 : pm_tg 16 492 = some (369, 0, 1, false) := by decide +kernel
theorem q368_1 : pm_cF 368 1 4 369 1 1 := ⟨_, _, _, _, c368_1, rfl, by rw [k368]; exact tg16_492, rfl⟩
theorem tg16_495 : pm_tg 16 495 = some (370, 2, 0, false) := by decide +kernel
theorem q368_12 : pm_cF 368 12 15 370 0 2 := ⟨_, _, _, _, c368_12, rfl, by rw [k368]; exact tg16_495, rfl⟩
theorem tg17_9 : pm_tg 17 9 = some (371, 2, 0, false) := by decide +kernel
theorem q370_3 : pm_cF 370 3 6 371 0 2 := ⟨_, _, _, _, c370_3, rfl, by rw [k370]; exact tg17_9, rfl⟩
theorem tg16_1059 : pm_tg 16 1059 = some (372, 3, 0, false) := by decide +kernel
theorem q371_5 : pm_cF 371 5 8 372 0 3 := ⟨_, _, _, _, c371_5, rfl, by rw [k371]; exact tg16_1059, rfl⟩
