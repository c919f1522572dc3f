/-! THE METHODS AS FUNCTIONS OF THE MEMORY (written by dec.py) -/
def f186 (r : Nat) (x1 : Int32) (I : Nat → Nat → Int32) (J : Nat → Nat → Int64) : Option ((Int32 ⊕ Nat) × (Nat → Nat → Int32) × (Nat → Nat → Int64)) := pm_xb (f180 r x1 I J) (fun ov1 I2 J3 => (f53 r x1 0 600 I2 J3).bind (fun (ov6, I7, J8) => some (.inl ov6, I7, J8)))
theorem d186 {X : (Nat → Int32) × Nat} {d : Nat} {I : Nat → Nat → Int32} {J : Nat → Nat → Int64} {P : Nat → Nat → Value} {e r k r2 k2 : Nat} {x1 : Int32} {q : (Int32 ⊕ Nat) × (Nat → Nat → Int32) × (Nat → Nat → Int64)} (hw : pm_W P r k r2 k2) (he : e < 100000)  (h : f186 r x1 I J = some q) : pm_Fn X (d + 4) 186 1 [.ref 0, .int x1] (I, J, P, pm_T0, e) (pm_sI q.1) (q.2.1, q.2.2, P, pm_T0, pm_sE q.1 e) := by
  obtain ⟨hp, hw1, hw2, hw3, hw4, hw5, hw6, hw7, hw8, hw9, hw10, hw11⟩ := id hw
  have hwa := hw5.1
  have hwb := hw6.1
  have hwc := hw7.1
  have hwd := hw8.1
  unfold f186 at h
  refine fn_v rc186 (c := 11) (nf := 14) (by first | rfl | assumption) ml186 rfl rfl rfl rfl ?_
  refine al0 c186_0 ?_
  refine il1 c186_1 ?_
  rcases pm_xb_sp h with ⟨ot5, I2, J3, e4, rfl⟩ | ⟨ov1, I2, J3, e4, h⟩
  · exact cx2 q186_2 hh186 (μ1 := (I2, J3, P, pm_T0, e + 1)) (d180 hw he e4) rfl
  refine cz2 q186_2 (μ1 := (I2, J3, P, pm_T0, e)) (d180 hw he e4) rfl ?_
  refine al0 c186_5 ?_
  refine r_gr g186_6 rfl rfl (hp _ _ _ rfl) ?_
  refine il1 c186_9 ?_
  refine r_ic c186_10 kI0 ?_
  refine r_si c186_11 kS600 ?_
  obtain ⟨⟨ov6, I7, J8⟩, e9, h⟩ := pm_bd_sp h
  dsimp only at h
  refine cv4 q186_14 (v := .int ov6) (μ1 := (I7, J8, P, pm_T0, e)) (d53 hw e9) rfl ?_
  cases h
  exact r_ri c186_17 rt186 rfl rfl
def f187 (r : Nat) (x1 : Int32) (I : Nat → Nat → Int32) (J : Nat → Nat → Int64) : Option ((Int32 ⊕ Nat) × (Nat → Nat → Int32) × (Nat → Nat → Int64)) := pm_xb (f180 r x1 I J) (fun ov1 I2 J3 => (f53 r x1 1 600 I2 J3).bind (fun (ov6, I7, J8) => some (.inl ov6, I7, J8)))
theorem d187 {X : (Nat → Int32) × Nat} {d : Nat} {I : Nat → Nat → Int32} {J : Nat → Nat → Int64} {P : Nat → Nat → Value} {e r k r2 k2 : Nat} {x1 : Int32} {q : (Int32 ⊕ Nat) × (Nat → Nat → Int32) × (Nat → Nat → Int64)} (hw : pm_W P r k r2 k2) (he : e < 100000)  (h : f187 r x1 I J = some q) : pm_Fn X (d + 4) 187 1 [.ref 0, .int x1] (I, J, P, pm_T0, e) (pm_sI q.1) (q.2.1, q.2.2, P, pm_T0, pm_sE q.1 e) := by
  obtain ⟨hp, hw1, hw2, hw3, hw4, hw5, hw6, hw7, hw8, hw9, hw10, hw11⟩ := id hw
  have hwa := hw5.1
  have hwb := hw6.1
  have hwc := hw7.1
  have hwd := hw8.1
  unfold f187 at h
  refine fn_v rc187 (c := 11) (nf := 14) (by first | rfl | assumption) ml187 rfl rfl rfl rfl ?_
  refine al0 c187_0 ?_
  refine il1 c187_1 ?_
  rcases pm_xb_sp h with ⟨ot5, I2, J3, e4, rfl⟩ | ⟨ov1, I2, J3, e4, h⟩
  · exact cx2 q187_2 hh187 (μ1 := (I2, J3, P, pm_T0, e + 1)) (d180 hw he e4) rfl
  refine cz2 q187_2 (μ1 := (I2, J3, P, pm_T0, e)) (d180 hw he e4) rfl ?_
  refine al0 c187_5 ?_
  refine r_gr g187_6 rfl rfl (hp _ _ _ rfl) ?_
  refine il1 c187_9 ?_
  refine r_ic c187_10 kI1 ?_
  refine r_si c187_11 kS600 ?_
  obtain ⟨⟨ov6, I7, J8⟩, e9, h⟩ := pm_bd_sp h
  dsimp only at h
  refine cv4 q187_14 (v := .int ov6) (μ1 := (I7, J8, P, pm_T0, e)) (d53 hw e9) rfl ?_
  cases h
  exact r_ri c187_17 rt187 rfl rfl
def f188 (r : Nat) (x1 : Int32) (x2 : Int32) (I : Nat → Nat → Int32) (J : Nat → Nat → Int64) : Option ((Int32 ⊕ Nat) × (Nat → Nat → Int32) × (Nat → Nat → Int64)) := (if x1.toInt < 0 then pm_xb (f174 0 I J) (fun ov2 I3 J4 => (if x2.toInt < 0 then pm_xb (f174 0 I3 J4) (fun ov8 I9 J10 => (if x2 = 0 then (f54 r x1 I9 J10).bind (fun (ov14, I15, J16) => some (.inl ov14, I15, J16)) else if x2 = 1 then (f55 r x1 I9 J10).bind (fun (ov19, I20, J21) => some (.inl ov19, I20, J21)) else (f36 r 0 I9 J10).bind (fun (ov23, I24, J25) => some (.inl (pm_max 0 ((ov23 * x1) - (v108  I24))), I24, J25)))) else (if (2 : Int32).toInt < x2.toInt then pm_xb (f174 0 I3 J4) (fun ov28 I29 J30 => (if x2 = 0 then (f54 r x1 I29 J30).bind (fun (ov34, I35, J36) => some (.inl ov34, I35, J36)) else if x2 = 1 then (f55 r x1 I29 J30).bind (fun (ov39, I40, J41) => some (.inl ov39, I40, J41)) else (f36 r 0 I29 J30).bind (fun (ov43, I44, J45) => some (.inl (pm_max 0 ((ov43 * x1) - (v108  I44))), I44, J45)))) else pm_xb (f174 1 I3 J4) (fun ov47 I48 J49 => (if x2 = 0 then (f54 r x1 I48 J49).bind (fun (ov53, I54, J55) => some (.inl ov53, I54, J55)) else if x2 = 1 then (f55 r x1 I48 J49).bind (fun (ov58, I59, J60) => some (.inl ov58, I59, J60)) else (f36 r 0 I48 J49).bind (fun (ov62, I63, J64) => some (.inl (pm_max 0 ((ov62 * x1) - (v108  I63))), I63, J64))))))) else (if (600 : Int32).toInt < x1.toInt then pm_xb (f174 0 I J) (fun ov67 I68 J69 => (if x2.toInt < 0 then pm_xb (f174 0 I68 J69) (fun ov73 I74 J75 => (if x2 = 0 then (f54 r x1 I74 J75).bind (fun (ov79, I80, J81) => some (.inl ov79, I80, J81)) else if x2 = 1 then (f55 r x1 I74 J75).bind (fun (ov84, I85, J86) => some (.inl ov84, I85, J86)) else (f36 r 0 I74 J75).bind (fun (ov88, I89, J90) => some (.inl (pm_max 0 ((ov88 * x1) - (v108  I89))), I89, J90)))) else (if (2 : Int32).toInt < x2.toInt then pm_xb (f174 0 I68 J69) (fun ov93 I94 J95 => (if x2 = 0 then (f54 r x1 I94 J95).bind (fun (ov99, I100, J101) => some (.inl ov99, I100, J101)) else if x2 = 1 then (f55 r x1 I94 J95).bind (fun (ov104, I105, J106) => some (.inl ov104, I105, J106)) else (f36 r 0 I94 J95).bind (fun (ov108, I109, J110) => some (.inl (pm_max 0 ((ov108 * x1) - (v108  I109))), I109, J110)))) else pm_xb (f174 1 I68 J69) (fun ov112 I113 J114 => (if x2 = 0 then (f54 r x1 I113 J114).bind (fun (ov118, I119, J120) => some (.inl ov118, I119, J120)) else if x2 = 1 then (f55 r x1 I113 J114).bind (fun (ov123, I124, J125) => some (.inl ov123, I124, J125)) else (f36 r 0 I113 J114).bind (fun (ov127, I128, J129) => some (.inl (pm_max 0 ((ov127 * x1) - (v108  I128))), I128, J129))))))) else pm_xb (f174 1 I J) (fun ov131 I132 J133 => (if x2.toInt < 0 then pm_xb (f174 0 I132 J133) (fun ov137 I138 J139 => (if x2 = 0 then (f54 r x1 I138 J139).bind (fun (ov143, I144, J145) => some (.inl ov143, I144, J145)) else if x2 = 1 then (f55 r x1 I138 J139).bind (fun (ov148, I149, J150) => some (.inl ov148, I149, J150)) else (f36 r 0 I138 J139).bind (fun (ov152, I153, J154) => some (.inl (pm_max 0 ((ov152 * x1) - (v108  I153))), I153, J154)))) else (if (2 : Int32).toInt < x2.toInt then pm_xb (f174 0 I132 J133) (fun ov157 I158 J159 => (if x2 = 0 then (f54 r x1 I158 J159).bind (fun (ov163, I164, J165) => some (.inl ov163, I164, J165)) else if x2 = 1 then (f55 r x1 I158 J159).bind (fun (ov168, I169, J170) => some (.inl ov168, I169, J170)) else (f36 r 0 I158 J159).bind (fun (ov172, I173, J174) => some (.inl (pm_max 0 ((ov172 * x1) - (v108  I173))), I173, J174)))) else pm_xb (f174 1 I132 J133) (fun ov176 I177 J178 => (if x2 = 0 then (f54 r x1 I177 J178).bind (fun (ov182, I183, J184) => some (.inl ov182, I183, J184)) else if x2 = 1 then (f55 r x1 I177 J178).bind (fun (ov187, I188, J189) => some (.inl ov187, I188, J189)) else (f36 r 0 I177 J178).bind (fun (ov191, I192, J193) => some (.inl (pm_max 0 ((ov191 * x1) - (v108  I192))), I192, J193)))))))))
theorem d188 {X : (Nat → Int32) × Nat} {d : Nat} {I : Nat → Nat → Int32} {J : Nat → Nat → Int64} {P : Nat → Nat → Value} {e r k r2 k2 : Nat} {x1 : Int32} {x2 : Int32} {q : (Int32 ⊕ Nat) × (Nat → Nat → Int32) × (Nat → Nat → Int64)} (hw : pm_W P r k r2 k2) (he : e < 100000)  (h : f188 r x1 x2 I J = some q) : pm_Fn X (d + 5) 188 1 [.ref 0, .int x1, .int x2] (I, J, P, pm_T0, e) (pm_sI q.1) (q.2.1, q.2.2, P, pm_T0, pm_sE q.1 e) := by
  obtain ⟨hp, hw1, hw2, hw3, hw4, hw5, hw6, hw7, hw8, hw9, hw10, hw11⟩ := id hw
  have hwa := hw5.1
  have hwb := hw6.1
  have hwc := hw7.1
  have hwd := hw8.1
  unfold f188 at h
  refine fn_v rc188 (c := 11) (nf := 14) (by first | rfl | assumption) ml188 rfl rfl rfl rfl ?_
  refine al0 c188_0 ?_
  refine il1 c188_1 ?_
  refine r_iflt (t := 16) c188_2 rfl (fun h1 => ?_) (fun h1 => ?_)
  · rw [if_pos h1] at h
    refine r_ic c188_16 kI0 ?_
    rcases pm_xb_sp h with ⟨ot6, I3, J4, e5, rfl⟩ | ⟨ov2, I3, J4, e5, h⟩
    · exact cx2 q188_17 hh188 (μ1 := (I3, J4, P, pm_T0, e + 1)) (d174 hw he e5) rfl
    refine cz2 q188_17 (μ1 := (I3, J4, P, pm_T0, e)) (d174 hw he e5) rfl ?_
    refine al0 c188_20 ?_
    refine il2 c188_21 ?_
    refine r_iflt (t := 34) c188_22 rfl (fun h7 => ?_) (fun h7 => ?_)
    · rw [if_pos h7] at h
      refine r_ic c188_34 kI0 ?_
      rcases pm_xb_sp h with ⟨ot12, I9, J10, e11, rfl⟩ | ⟨ov8, I9, J10, e11, h⟩
      · exact cx2 q188_35 hh188 (μ1 := (I9, J10, P, pm_T0, e + 1)) (d174 hw he e11) rfl
      refine cz2 q188_35 (μ1 := (I9, J10, P, pm_T0, e)) (d174 hw he e11) rfl ?_
      refine il2 c188_38 ?_
      by_cases h13 : x2 = 0
      · rw [if_pos h13] at h
        refine r_lk (t := 64) (o := 25) c188_39 (by decide) (by rw [h13]; decide) rfl ?_
        refine al0 c188_64 ?_
        refine r_gr g188_65 rfl rfl (hp _ _ _ rfl) ?_
        refine il1 c188_68 ?_
        obtain ⟨⟨ov14, I15, J16⟩, e17, h⟩ := pm_bd_sp h
        dsimp only at h
        refine cv2 q188_69 (v := .int ov14) (μ1 := (I15, J16, P, pm_T0, e)) (d54 hw e17) rfl ?_
        cases h
        exact r_ri c188_72 rt188 rfl rfl
      · rw [if_neg h13] at h
        by_cases h18 : x2 = 1
        · rw [if_pos h18] at h
          refine r_lk (t := 73) (o := 34) c188_39 (by decide) (by rw [h18]; decide) rfl ?_
          refine al0 c188_73 ?_
          refine r_gr g188_74 rfl rfl (hp _ _ _ rfl) ?_
          refine il1 c188_77 ?_
          obtain ⟨⟨ov19, I20, J21⟩, e22, h⟩ := pm_bd_sp h
          dsimp only at h
          refine cv2 q188_78 (v := .int ov19) (μ1 := (I20, J21, P, pm_T0, e)) (d55 hw e22) rfl ?_
          cases h
          exact r_ri c188_81 rt188 rfl rfl
        · rw [if_neg h18] at h
          refine r_lk (t := 82) (o := 43) c188_39 (by decide) (pm_lkd x2 [0, 1] (by decide) (by intro v hv; simp only [List.mem_cons, List.not_mem_nil, or_false] at hv; rcases hv with rfl | rfl <;> assumption)) rfl ?_
          refine r_ic c188_82 kI0 ?_
          refine al0 c188_83 ?_
          refine r_gr g188_84 rfl rfl (hp _ _ _ rfl) ?_
          refine r_ic c188_87 kI0 ?_
          obtain ⟨⟨ov23, I24, J25⟩, e26, h⟩ := pm_bd_sp h
          dsimp only at h
          refine cv2 q188_88 (v := .int ov23) (μ1 := (I24, J25, P, pm_T0, e)) (d36 hw e26) rfl ?_
          refine il1 c188_91 ?_
          refine r_imul c188_92 ?_
          refine al0 c188_93 ?_
          refine r_gr g188_94 rfl rfl (hp _ _ _ rfl) ?_
          refine cv1 q188_97 (s28 (hp _ _ _ rfl)) rfl ?_
          refine cv1 q188_100 (d108 hw rfl) rfl ?_
          refine r_isub c188_103 ?_
          refine cv2 q188_104 s362 rfl ?_
          cases h
          exact r_ri c188_107 rt188 rfl rfl
    · rw [if_neg (Int.not_lt.mpr h7)] at h
      refine il2 c188_25 ?_
      refine r_ic c188_26 kI2 ?_
      refine r_icgt (t := 34) c188_27 rfl (fun h27 => ?_) (fun h27 => ?_)
      · rw [if_pos h27] at h
        refine r_ic c188_34 kI0 ?_
        rcases pm_xb_sp h with ⟨ot32, I29, J30, e31, rfl⟩ | ⟨ov28, I29, J30, e31, h⟩
        · exact cx2 q188_35 hh188 (μ1 := (I29, J30, P, pm_T0, e + 1)) (d174 hw he e31) rfl
        refine cz2 q188_35 (μ1 := (I29, J30, P, pm_T0, e)) (d174 hw he e31) rfl ?_
        refine il2 c188_38 ?_
        by_cases h33 : x2 = 0
        · rw [if_pos h33] at h
          refine r_lk (t := 64) (o := 25) c188_39 (by decide) (by rw [h33]; decide) rfl ?_
          refine al0 c188_64 ?_
          refine r_gr g188_65 rfl rfl (hp _ _ _ rfl) ?_
          refine il1 c188_68 ?_
          obtain ⟨⟨ov34, I35, J36⟩, e37, h⟩ := pm_bd_sp h
          dsimp only at h
          refine cv2 q188_69 (v := .int ov34) (μ1 := (I35, J36, P, pm_T0, e)) (d54 hw e37) rfl ?_
          cases h
          exact r_ri c188_72 rt188 rfl rfl
        · rw [if_neg h33] at h
          by_cases h38 : x2 = 1
          · rw [if_pos h38] at h
            refine r_lk (t := 73) (o := 34) c188_39 (by decide) (by rw [h38]; decide) rfl ?_
            refine al0 c188_73 ?_
            refine r_gr g188_74 rfl rfl (hp _ _ _ rfl) ?_
            refine il1 c188_77 ?_
            obtain ⟨⟨ov39, I40, J41⟩, e42, h⟩ := pm_bd_sp h
            dsimp only at h
            refine cv2 q188_78 (v := .int ov39) (μ1 := (I40, J41, P, pm_T0, e)) (d55 hw e42) rfl ?_
            cases h
            exact r_ri c188_81 rt188 rfl rfl
          · rw [if_neg h38] at h
            refine r_lk (t := 82) (o := 43) c188_39 (by decide) (pm_lkd x2 [0, 1] (by decide) (by intro v hv; simp only [List.mem_cons, List.not_mem_nil, or_false] at hv; rcases hv with rfl | rfl <;> assumption)) rfl ?_
            refine r_ic c188_82 kI0 ?_
            refine al0 c188_83 ?_
            refine r_gr g188_84 rfl rfl (hp _ _ _ rfl) ?_
            refine r_ic c188_87 kI0 ?_
            obtain ⟨⟨ov43, I44, J45⟩, e46, h⟩ := pm_bd_sp h
            dsimp only at h
            refine cv2 q188_88 (v := .int ov43) (μ1 := (I44, J45, P, pm_T0, e)) (d36 hw e46) rfl ?_
            refine il1 c188_91 ?_
            refine r_imul c188_92 ?_
            refine al0 c188_93 ?_
            refine r_gr g188_94 rfl rfl (hp _ _ _ rfl) ?_
            refine cv1 q188_97 (s28 (hp _ _ _ rfl)) rfl ?_
            refine cv1 q188_100 (d108 hw rfl) rfl ?_
            refine r_isub c188_103 ?_
            refine cv2 q188_104 s362 rfl ?_
            cases h
            exact r_ri c188_107 rt188 rfl rfl
      · rw [if_neg (Int.not_lt.mpr h27)] at h
        refine r_ic c188_30 kI1 ?_
        refine r_go (t := 35) c188_31 rfl ?_
        rcases pm_xb_sp h with ⟨ot51, I48, J49, e50, rfl⟩ | ⟨ov47, I48, J49, e50, h⟩
        · exact cx2 q188_35 hh188 (μ1 := (I48, J49, P, pm_T0, e + 1)) (d174 hw he e50) rfl
        refine cz2 q188_35 (μ1 := (I48, J49, P, pm_T0, e)) (d174 hw he e50) rfl ?_
        refine il2 c188_38 ?_
        by_cases h52 : x2 = 0
        · rw [if_pos h52] at h
          refine r_lk (t := 64) (o := 25) c188_39 (by decide) (by rw [h52]; decide) rfl ?_
          refine al0 c188_64 ?_
          refine r_gr g188_65 rfl rfl (hp _ _ _ rfl) ?_
          refine il1 c188_68 ?_
          obtain ⟨⟨ov53, I54, J55⟩, e56, h⟩ := pm_bd_sp h
          dsimp only at h
          refine cv2 q188_69 (v := .int ov53) (μ1 := (I54, J55, P, pm_T0, e)) (d54 hw e56) rfl ?_
          cases h
          exact r_ri c188_72 rt188 rfl rfl
        · rw [if_neg h52] at h
          by_cases h57 : x2 = 1
          · rw [if_pos h57] at h
            refine r_lk (t := 73) (o := 34) c188_39 (by decide) (by rw [h57]; decide) rfl ?_
            refine al0 c188_73 ?_
            refine r_gr g188_74 rfl rfl (hp _ _ _ rfl) ?_
            refine il1 c188_77 ?_
            obtain ⟨⟨ov58, I59, J60⟩, e61, h⟩ := pm_bd_sp h
            dsimp only at h
            refine cv2 q188_78 (v := .int ov58) (μ1 := (I59, J60, P, pm_T0, e)) (d55 hw e61) rfl ?_
            cases h
            exact r_ri c188_81 rt188 rfl rfl
          · rw [if_neg h57] at h
            refine r_lk (t := 82) (o := 43) c188_39 (by decide) (pm_lkd x2 [0, 1] (by decide) (by intro v hv; simp only [List.mem_cons, List.not_mem_nil, or_false] at hv; rcases hv with rfl | rfl <;> assumption)) rfl ?_
            refine r_ic c188_82 kI0 ?_
            refine al0 c188_83 ?_
            refine r_gr g188_84 rfl rfl (hp _ _ _ rfl) ?_
            refine r_ic c188_87 kI0 ?_
            obtain ⟨⟨ov62, I63, J64⟩, e65, h⟩ := pm_bd_sp h
            dsimp only at h
            refine cv2 q188_88 (v := .int ov62) (μ1 := (I63, J64, P, pm_T0, e)) (d36 hw e65) rfl ?_
            refine il1 c188_91 ?_
            refine r_imul c188_92 ?_
            refine al0 c188_93 ?_
            refine r_gr g188_94 rfl rfl (hp _ _ _ rfl) ?_
            refine cv1 q188_97 (s28 (hp _ _ _ rfl)) rfl ?_
            refine cv1 q188_100 (d108 hw rfl) rfl ?_
            refine r_isub c188_103 ?_
            refine cv2 q188_104 s362 rfl ?_
            cases h
            exact r_ri c188_107 rt188 rfl rfl
  · rw [if_neg (Int.not_lt.mpr h1)] at h
    refine il1 c188_5 ?_
    refine r_si c188_6 kS600 ?_
    refine r_icgt (t := 16) c188_9 rfl (fun h66 => ?_) (fun h66 => ?_)
    · rw [if_pos h66] at h
      refine r_ic c188_16 kI0 ?_
      rcases pm_xb_sp h with ⟨ot71, I68, J69, e70, rfl⟩ | ⟨ov67, I68, J69, e70, h⟩
      · exact cx2 q188_17 hh188 (μ1 := (I68, J69, P, pm_T0, e + 1)) (d174 hw he e70) rfl
      refine cz2 q188_17 (μ1 := (I68, J69, P, pm_T0, e)) (d174 hw he e70) rfl ?_
      refine al0 c188_20 ?_
      refine il2 c188_21 ?_
      refine r_iflt (t := 34) c188_22 rfl (fun h72 => ?_) (fun h72 => ?_)
      · rw [if_pos h72] at h
        refine r_ic c188_34 kI0 ?_
        rcases pm_xb_sp h with ⟨ot77, I74, J75, e76, rfl⟩ | ⟨ov73, I74, J75, e76, h⟩
        · exact cx2 q188_35 hh188 (μ1 := (I74, J75, P, pm_T0, e + 1)) (d174 hw he e76) rfl
        refine cz2 q188_35 (μ1 := (I74, J75, P, pm_T0, e)) (d174 hw he e76) rfl ?_
        refine il2 c188_38 ?_
        by_cases h78 : x2 = 0
        · rw [if_pos h78] at h
          refine r_lk (t := 64) (o := 25) c188_39 (by decide) (by rw [h78]; decide) rfl ?_
          refine al0 c188_64 ?_
          refine r_gr g188_65 rfl rfl (hp _ _ _ rfl) ?_
          refine il1 c188_68 ?_
          obtain ⟨⟨ov79, I80, J81⟩, e82, h⟩ := pm_bd_sp h
          dsimp only at h
          refine cv2 q188_69 (v := .int ov79) (μ1 := (I80, J81, P, pm_T0, e)) (d54 hw e82) rfl ?_
          cases h
          exact r_ri c188_72 rt188 rfl rfl
        · rw [if_neg h78] at h
          by_cases h83 : x2 = 1
          · rw [if_pos h83] at h
            refine r_lk (t := 73) (o := 34) c188_39 (by decide) (by rw [h83]; decide) rfl ?_
            refine al0 c188_73 ?_
            refine r_gr g188_74 rfl rfl (hp _ _ _ rfl) ?_
            refine il1 c188_77 ?_
            obtain ⟨⟨ov84, I85, J86⟩, e87, h⟩ := pm_bd_sp h
            dsimp only at h
            refine cv2 q188_78 (v := .int ov84) (μ1 := (I85, J86, P, pm_T0, e)) (d55 hw e87) rfl ?_
            cases h
            exact r_ri c188_81 rt188 rfl rfl
          · rw [if_neg h83] at h
            refine r_lk (t := 82) (o := 43) c188_39 (by decide) (pm_lkd x2 [0, 1] (by decide) (by intro v hv; simp only [List.mem_cons, List.not_mem_nil, or_false] at hv; rcases hv with rfl | rfl <;> assumption)) rfl ?_
            refine r_ic c188_82 kI0 ?_
            refine al0 c188_83 ?_
            refine r_gr g188_84 rfl rfl (hp _ _ _ rfl) ?_
            refine r_ic c188_87 kI0 ?_
            obtain ⟨⟨ov88, I89, J90⟩, e91, h⟩ := pm_bd_sp h
            dsimp only at h
            refine cv2 q188_88 (v := .int ov88) (μ1 := (I89, J90, P, pm_T0, e)) (d36 hw e91) rfl ?_
            refine il1 c188_91 ?_
            refine r_imul c188_92 ?_
            refine al0 c188_93 ?_
            refine r_gr g188_94 rfl rfl (hp _ _ _ rfl) ?_
            refine cv1 q188_97 (s28 (hp _ _ _ rfl)) rfl ?_
            refine cv1 q188_100 (d108 hw rfl) rfl ?_
            refine r_isub c188_103 ?_
            refine cv2 q188_104 s362 rfl ?_
            cases h
            exact r_ri c188_107 rt188 rfl rfl
      · rw [if_neg (Int.not_lt.mpr h72)] at h
        refine il2 c188_25 ?_
        refine r_ic c188_26 kI2 ?_
        refine r_icgt (t := 34) c188_27 rfl (fun h92 => ?_) (fun h92 => ?_)
        · rw [if_pos h92] at h
          refine r_ic c188_34 kI0 ?_
          rcases pm_xb_sp h with ⟨ot97, I94, J95, e96, rfl⟩ | ⟨ov93, I94, J95, e96, h⟩
          · exact cx2 q188_35 hh188 (μ1 := (I94, J95, P, pm_T0, e + 1)) (d174 hw he e96) rfl
          refine cz2 q188_35 (μ1 := (I94, J95, P, pm_T0, e)) (d174 hw he e96) rfl ?_
          refine il2 c188_38 ?_
          by_cases h98 : x2 = 0
          · rw [if_pos h98] at h
            refine r_lk (t := 64) (o := 25) c188_39 (by decide) (by rw [h98]; decide) rfl ?_
            refine al0 c188_64 ?_
            refine r_gr g188_65 rfl rfl (hp _ _ _ rfl) ?_
            refine il1 c188_68 ?_
            obtain ⟨⟨ov99, I100, J101⟩, e102, h⟩ := pm_bd_sp h
            dsimp only at h
            refine cv2 q188_69 (v := .int ov99) (μ1 := (I100, J101, P, pm_T0, e)) (d54 hw e102) rfl ?_
            cases h
            exact r_ri c188_72 rt188 rfl rfl
          · rw [if_neg h98] at h
            by_cases h103 : x2 = 1
            · rw [if_pos h103] at h
              refine r_lk (t := 73) (o := 34) c188_39 (by decide) (by rw [h103]; decide) rfl ?_
              refine al0 c188_73 ?_
              refine r_gr g188_74 rfl rfl (hp _ _ _ rfl) ?_
              refine il1 c188_77 ?_
              obtain ⟨⟨ov104, I105, J106⟩, e107, h⟩ := pm_bd_sp h
              dsimp only at h
              refine cv2 q188_78 (v := .int ov104) (μ1 := (I105, J106, P, pm_T0, e)) (d55 hw e107) rfl ?_
              cases h
              exact r_ri c188_81 rt188 rfl rfl
            · rw [if_neg h103] at h
              refine r_lk (t := 82) (o := 43) c188_39 (by decide) (pm_lkd x2 [0, 1] (by decide) (by intro v hv; simp only [List.mem_cons, List.not_mem_nil, or_false] at hv; rcases hv with rfl | rfl <;> assumption)) rfl ?_
              refine r_ic c188_82 kI0 ?_
              refine al0 c188_83 ?_
              refine r_gr g188_84 rfl rfl (hp _ _ _ rfl) ?_
              refine r_ic c188_87 kI0 ?_
              obtain ⟨⟨ov108, I109, J110⟩, e111, h⟩ := pm_bd_sp h
              dsimp only at h
              refine cv2 q188_88 (v := .int ov108) (μ1 := (I109, J110, P, pm_T0, e)) (d36 hw e111) rfl ?_
              refine il1 c188_91 ?_
              refine r_imul c188_92 ?_
              refine al0 c188_93 ?_
              refine r_gr g188_94 rfl rfl (hp _ _ _ rfl) ?_
              refine cv1 q188_97 (s28 (hp _ _ _ rfl)) rfl ?_
              refine cv1 q188_100 (d108 hw rfl) rfl ?_
              refine r_isub c188_103 ?_
              refine cv2 q188_104 s362 rfl ?_
              cases h
              exact r_ri c188_107 rt188 rfl rfl
        · rw [if_neg (Int.not_lt.mpr h92)] at h
          refine r_ic c188_30 kI1 ?_
          refine r_go (t := 35) c188_31 rfl ?_
          rcases pm_xb_sp h with ⟨ot116, I113, J114, e115, rfl⟩ | ⟨ov112, I113, J114, e115, h⟩
          · exact cx2 q188_35 hh188 (μ1 := (I113, J114, P, pm_T0, e + 1)) (d174 hw he e115) rfl
          refine cz2 q188_35 (μ1 := (I113, J114, P, pm_T0, e)) (d174 hw he e115) rfl ?_
          refine il2 c188_38 ?_
          by_cases h117 : x2 = 0
          · rw [if_pos h117] at h
            refine r_lk (t := 64) (o := 25) c188_39 (by decide) (by rw [h117]; decide) rfl ?_
            refine al0 c188_64 ?_
            refine r_gr g188_65 rfl rfl (hp _ _ _ rfl) ?_
            refine il1 c188_68 ?_
            obtain ⟨⟨ov118, I119, J120⟩, e121, h⟩ := pm_bd_sp h
            dsimp only at h
            refine cv2 q188_69 (v := .int ov118) (μ1 := (I119, J120, P, pm_T0, e)) (d54 hw e121) rfl ?_
            cases h
            exact r_ri c188_72 rt188 rfl rfl
          · rw [if_neg h117] at h
            by_cases h122 : x2 = 1
            · rw [if_pos h122] at h
              refine r_lk (t := 73) (o := 34) c188_39 (by decide) (by rw [h122]; decide) rfl ?_
              refine al0 c188_73 ?_
              refine r_gr g188_74 rfl rfl (hp _ _ _ rfl) ?_
              refine il1 c188_77 ?_
              obtain ⟨⟨ov123, I124, J125⟩, e126, h⟩ := pm_bd_sp h
              dsimp only at h
              refine cv2 q188_78 (v := .int ov123) (μ1 := (I124, J125, P, pm_T0, e)) (d55 hw e126) rfl ?_
              cases h
              exact r_ri c188_81 rt188 rfl rfl
            · rw [if_neg h122] at h
              refine r_lk (t := 82) (o := 43) c188_39 (by decide) (pm_lkd x2 [0, 1] (by decide) (by intro v hv; simp only [List.mem_cons, List.not_mem_nil, or_false] at hv; rcases hv with rfl | rfl <;> assumption)) rfl ?_
              refine r_ic c188_82 kI0 ?_
              refine al0 c188_83 ?_
              refine r_gr g188_84 rfl rfl (hp _ _ _ rfl) ?_
              refine r_ic c188_87 kI0 ?_
              obtain ⟨⟨ov127, I128, J129⟩, e130, h⟩ := pm_bd_sp h
              dsimp only at h
              refine cv2 q188_88 (v := .int ov127) (μ1 := (I128, J129, P, pm_T0, e)) (d36 hw e130) rfl ?_
              refine il1 c188_91 ?_
              refine r_imul c188_92 ?_
              refine al0 c188_93 ?_
              refine r_gr g188_94 rfl rfl (hp _ _ _ rfl) ?_
              refine cv1 q188_97 (s28 (hp _ _ _ rfl)) rfl ?_
              refine cv1 q188_100 (d108 hw rfl) rfl ?_
              refine r_isub c188_103 ?_
              refine cv2 q188_104 s362 rfl ?_
              cases h
              exact r_ri c188_107 rt188 rfl rfl
    · rw [if_neg (Int.not_lt.mpr h66)] at h
      refine r_ic c188_12 kI1 ?_
      refine r_go (t := 17) c188_13 rfl ?_
      rcases pm_xb_sp h with ⟨ot135, I132, J133, e134, rfl⟩ | ⟨ov131, I132, J133, e134, h⟩
      · exact cx2 q188_17 hh188 (μ1 := (I132, J133, P, pm_T0, e + 1)) (d174 hw he e134) rfl
      refine cz2 q188_17 (μ1 := (I132, J133, P, pm_T0, e)) (d174 hw he e134) rfl ?_
      refine al0 c188_20 ?_
      refine il2 c188_21 ?_
      refine r_iflt (t := 34) c188_22 rfl (fun h136 => ?_) (fun h136 => ?_)
      · rw [if_pos h136] at h
        refine r_ic c188_34 kI0 ?_
        rcases pm_xb_sp h with ⟨ot141, I138, J139, e140, rfl⟩ | ⟨ov137, I138, J139, e140, h⟩
        · exact cx2 q188_35 hh188 (μ1 := (I138, J139, P, pm_T0, e + 1)) (d174 hw he e140) rfl
        refine cz2 q188_35 (μ1 := (I138, J139, P, pm_T0, e)) (d174 hw he e140) rfl ?_
        refine il2 c188_38 ?_
        by_cases h142 : x2 = 0
        · rw [if_pos h142] at h
          refine r_lk (t := 64) (o := 25) c188_39 (by decide) (by rw [h142]; decide) rfl ?_
          refine al0 c188_64 ?_
          refine r_gr g188_65 rfl rfl (hp _ _ _ rfl) ?_
          refine il1 c188_68 ?_
          obtain ⟨⟨ov143, I144, J145⟩, e146, h⟩ := pm_bd_sp h
          dsimp only at h
          refine cv2 q188_69 (v := .int ov143) (μ1 := (I144, J145, P, pm_T0, e)) (d54 hw e146) rfl ?_
          cases h
          exact r_ri c188_72 rt188 rfl rfl
        · rw [if_neg h142] at h
          by_cases h147 : x2 = 1
          · rw [if_pos h147] at h
            refine r_lk (t := 73) (o := 34) c188_39 (by decide) (by rw [h147]; decide) rfl ?_
            refine al0 c188_73 ?_
            refine r_gr g188_74 rfl rfl (hp _ _ _ rfl) ?_
            refine il1 c188_77 ?_
            obtain ⟨⟨ov148, I149, J150⟩, e151, h⟩ := pm_bd_sp h
            dsimp only at h
            refine cv2 q188_78 (v := .int ov148) (μ1 := (I149, J150, P, pm_T0, e)) (d55 hw e151) rfl ?_
            cases h
            exact r_ri c188_81 rt188 rfl rfl
          · rw [if_neg h147] at h
            refine r_lk (t := 82) (o := 43) c188_39 (by decide) (pm_lkd x2 [0, 1] (by decide) (by intro v hv; simp only [List.mem_cons, List.not_mem_nil, or_false] at hv; rcases hv with rfl | rfl <;> assumption)) rfl ?_
            refine r_ic c188_82 kI0 ?_
            refine al0 c188_83 ?_
            refine r_gr g188_84 rfl rfl (hp _ _ _ rfl) ?_
            refine r_ic c188_87 kI0 ?_
            obtain ⟨⟨ov152, I153, J154⟩, e155, h⟩ := pm_bd_sp h
            dsimp only at h
            refine cv2 q188_88 (v := .int ov152) (μ1 := (I153, J154, P, pm_T0, e)) (d36 hw e155) rfl ?_
            refine il1 c188_91 ?_
            refine r_imul c188_92 ?_
            refine al0 c188_93 ?_
            refine r_gr g188_94 rfl rfl (hp _ _ _ rfl) ?_
            refine cv1 q188_97 (s28 (hp _ _ _ rfl)) rfl ?_
            refine cv1 q188_100 (d108 hw rfl) rfl ?_
            refine r_isub c188_103 ?_
            refine cv2 q188_104 s362 rfl ?_
            cases h
            exact r_ri c188_107 rt188 rfl rfl
      · rw [if_neg (Int.not_lt.mpr h136)] at h
        refine il2 c188_25 ?_
        refine r_ic c188_26 kI2 ?_
        refine r_icgt (t := 34) c188_27 rfl (fun h156 => ?_) (fun h156 => ?_)
        · rw [if_pos h156] at h
          refine r_ic c188_34 kI0 ?_
          rcases pm_xb_sp h with ⟨ot161, I158, J159, e160, rfl⟩ | ⟨ov157, I158, J159, e160, h⟩
          · exact cx2 q188_35 hh188 (μ1 := (I158, J159, P, pm_T0, e + 1)) (d174 hw he e160) rfl
          refine cz2 q188_35 (μ1 := (I158, J159, P, pm_T0, e)) (d174 hw he e160) rfl ?_
          refine il2 c188_38 ?_
          by_cases h162 : x2 = 0
          · rw [if_pos h162] at h
            refine r_lk (t := 64) (o := 25) c188_39 (by decide) (by rw [h162]; decide) rfl ?_
            refine al0 c188_64 ?_
            refine r_gr g188_65 rfl rfl (hp _ _ _ rfl) ?_
            refine il1 c188_68 ?_
            obtain ⟨⟨ov163, I164, J165⟩, e166, h⟩ := pm_bd_sp h
            dsimp only at h
            refine cv2 q188_69 (v := .int ov163) (μ1 := (I164, J165, P, pm_T0, e)) (d54 hw e166) rfl ?_
            cases h
            exact r_ri c188_72 rt188 rfl rfl
          · rw [if_neg h162] at h
            by_cases h167 : x2 = 1
            · rw [if_pos h167] at h
              refine r_lk (t := 73) (o := 34) c188_39 (by decide) (by rw [h167]; decide) rfl ?_
              refine al0 c188_73 ?_
              refine r_gr g188_74 rfl rfl (hp _ _ _ rfl) ?_
              refine il1 c188_77 ?_
              obtain ⟨⟨ov168, I169, J170⟩, e171, h⟩ := pm_bd_sp h
              dsimp only at h
              refine cv2 q188_78 (v := .int ov168) (μ1 := (I169, J170, P, pm_T0, e)) (d55 hw e171) rfl ?_
              cases h
              exact r_ri c188_81 rt188 rfl rfl
            · rw [if_neg h167] at h
              refine r_lk (t := 82) (o := 43) c188_39 (by decide) (pm_lkd x2 [0, 1] (by decide) (by intro v hv; simp only [List.mem_cons, List.not_mem_nil, or_false] at hv; rcases hv with rfl | rfl <;> assumption)) rfl ?_
              refine r_ic c188_82 kI0 ?_
              refine al0 c188_83 ?_
              refine r_gr g188_84 rfl rfl (hp _ _ _ rfl) ?_
              refine r_ic c188_87 kI0 ?_
              obtain ⟨⟨ov172, I173, J174⟩, e175, h⟩ := pm_bd_sp h
              dsimp only at h
              refine cv2 q188_88 (v := .int ov172) (μ1 := (I173, J174, P, pm_T0, e)) (d36 hw e175) rfl ?_
              refine il1 c188_91 ?_
              refine r_imul c188_92 ?_
              refine al0 c188_93 ?_
              refine r_gr g188_94 rfl rfl (hp _ _ _ rfl) ?_
              refine cv1 q188_97 (s28 (hp _ _ _ rfl)) rfl ?_
              refine cv1 q188_100 (d108 hw rfl) rfl ?_
              refine r_isub c188_103 ?_
              refine cv2 q188_104 s362 rfl ?_
              cases h
              exact r_ri c188_107 rt188 rfl rfl
        · rw [if_neg (Int.not_lt.mpr h156)] at h
          refine r_ic c188_30 kI1 ?_
          refine r_go (t := 35) c188_31 rfl ?_
          rcases pm_xb_sp h with ⟨ot180, I177, J178, e179, rfl⟩ | ⟨ov176, I177, J178, e179, h⟩
          · exact cx2 q188_35 hh188 (μ1 := (I177, J178, P, pm_T0, e + 1)) (d174 hw he e179) rfl
          refine cz2 q188_35 (μ1 := (I177, J178, P, pm_T0, e)) (d174 hw he e179) rfl ?_
          refine il2 c188_38 ?_
          by_cases h181 : x2 = 0
          · rw [if_pos h181] at h
            refine r_lk (t := 64) (o := 25) c188_39 (by decide) (by rw [h181]; decide) rfl ?_
            refine al0 c188_64 ?_
            refine r_gr g188_65 rfl rfl (hp _ _ _ rfl) ?_
            refine il1 c188_68 ?_
            obtain ⟨⟨ov182, I183, J184⟩, e185, h⟩ := pm_bd_sp h
            dsimp only at h
            refine cv2 q188_69 (v := .int ov182) (μ1 := (I183, J184, P, pm_T0, e)) (d54 hw e185) rfl ?_
            cases h
            exact r_ri c188_72 rt188 rfl rfl
          · rw [if_neg h181] at h
            by_cases h186 : x2 = 1
            · rw [if_pos h186] at h
              refine r_lk (t := 73) (o := 34) c188_39 (by decide) (by rw [h186]; decide) rfl ?_
              refine al0 c188_73 ?_
              refine r_gr g188_74 rfl rfl (hp _ _ _ rfl) ?_
              refine il1 c188_77 ?_
              obtain ⟨⟨ov187, I188, J189⟩, e190, h⟩ := pm_bd_sp h
              dsimp only at h
              refine cv2 q188_78 (v := .int ov187) (μ1 := (I188, J189, P, pm_T0, e)) (d55 hw e190) rfl ?_
              cases h
              exact r_ri c188_81 rt188 rfl rfl
            · rw [if_neg h186] at h
              refine r_lk (t := 82) (o := 43) c188_39 (by decide) (pm_lkd x2 [0, 1] (by decide) (by intro v hv; simp only [List.mem_cons, List.not_mem_nil, or_false] at hv; rcases hv with rfl | rfl <;> assumption)) rfl ?_
              refine r_ic c188_82 kI0 ?_
              refine al0 c188_83 ?_
              refine r_gr g188_84 rfl rfl (hp _ _ _ rfl) ?_
              refine r_ic c188_87 kI0 ?_
              obtain ⟨⟨ov191, I192, J193⟩, e194, h⟩ := pm_bd_sp h
              dsimp only at h
              refine cv2 q188_88 (v := .int ov191) (μ1 := (I192, J193, P, pm_T0, e)) (d36 hw e194) rfl ?_
              refine il1 c188_91 ?_
              refine r_imul c188_92 ?_
              refine al0 c188_93 ?_
              refine r_gr g188_94 rfl rfl (hp _ _ _ rfl) ?_
              refine cv1 q188_97 (s28 (hp _ _ _ rfl)) rfl ?_
              refine cv1 q188_100 (d108 hw rfl) rfl ?_
              refine r_isub c188_103 ?_
              refine cv2 q188_104 s362 rfl ?_
              cases h
              exact r_ri c188_107 rt188 rfl rfl
def f189 (r : Nat) (x1 : Int32) (x2 : Int32) (I : Nat → Nat → Int32) (J : Nat → Nat → Int64) : Option ((Int32 ⊕ Nat) × (Nat → Nat → Int32) × (Nat → Nat → Int64)) := pm_xb (f182 r x1 I J) (fun ov1 I2 J3 => pm_xb (f180 r x2 I2 J3) (fun ov6 I7 J8 => (f47 r x2 I7 J8).bind (fun (ov11, I12, J13) => some (.inl (v56 r x2 ov11 x1 I12), I12, J13))))
theorem d189 {X : (Nat → Int32) × Nat} {d : Nat} {I : Nat → Nat → Int32} {J : Nat → Nat → Int64} {P : Nat → Nat → Value} {e r k r2 k2 : Nat} {x1 : Int32} {x2 : Int32} {q : (Int32 ⊕ Nat) × (Nat → Nat → Int32) × (Nat → Nat → Int64)} (hw : pm_W P r k r2 k2) (he : e < 100000)  (h : f189 r x1 x2 I J = some q) : pm_Fn X (d + 4) 189 1 [.ref 0, .int x1, .int x2] (I, J, P, pm_T0, e) (pm_sI q.1) (q.2.1, q.2.2, P, pm_T0, pm_sE q.1 e) := by
  obtain ⟨hp, hw1, hw2, hw3, hw4, hw5, hw6, hw7, hw8, hw9, hw10, hw11⟩ := id hw
  have hwa := hw5.1
  have hwb := hw6.1
  have hwc := hw7.1
  have hwd := hw8.1
  unfold f189 at h
  refine fn_v rc189 (c := 11) (nf := 14) (by first | rfl | assumption) ml189 rfl rfl rfl rfl ?_
  refine al0 c189_0 ?_
  refine il1 c189_1 ?_
  rcases pm_xb_sp h with ⟨ot5, I2, J3, e4, rfl⟩ | ⟨ov1, I2, J3, e4, h⟩
  · exact cx2 q189_2 hh189 (μ1 := (I2, J3, P, pm_T0, e + 1)) (d182 hw he e4) rfl
  refine cz2 q189_2 (μ1 := (I2, J3, P, pm_T0, e)) (d182 hw he e4) rfl ?_
  refine al0 c189_5 ?_
  refine il2 c189_6 ?_
  rcases pm_xb_sp h with ⟨ot10, I7, J8, e9, rfl⟩ | ⟨ov6, I7, J8, e9, h⟩
  · exact cx2 q189_7 hh189 (μ1 := (I7, J8, P, pm_T0, e + 1)) (d180 hw he e9) rfl
  refine cz2 q189_7 (μ1 := (I7, J8, P, pm_T0, e)) (d180 hw he e9) rfl ?_
  refine al0 c189_10 ?_
  refine r_gr g189_11 rfl rfl (hp _ _ _ rfl) ?_
  refine il2 c189_14 ?_
  refine al0 c189_15 ?_
  refine r_gr g189_16 rfl rfl (hp _ _ _ rfl) ?_
  refine il2 c189_19 ?_
  obtain ⟨⟨ov11, I12, J13⟩, e14, h⟩ := pm_bd_sp h
  dsimp only at h
  refine cv2 q189_20 (v := .int ov11) (μ1 := (I12, J13, P, pm_T0, e)) (d47 hw e14) rfl ?_
  refine il1 c189_23 ?_
  refine cv4 q189_24 (d56 hw rfl) rfl ?_
  cases h
  exact r_ri c189_27 rt189 rfl rfl
def f190 (r : Nat) (x1 : Int32) (I : Nat → Nat → Int32) (J : Nat → Nat → Int64) : Option ((Int32 ⊕ Nat) × (Nat → Nat → Int32) × (Nat → Nat → Int64)) := (if x1 = 0 then pm_xb (f174 1 I J) (fun ov2 I3 J4 => (f63 r I3 J4).bind (fun (ov7, I8, J9) => (if x1 = 0 then some (.inl (I8 104 10), I8, J9) else some (.inl (I8 104 11), I8, J9)))) else (if x1 = 1 then pm_xb (f174 1 I J) (fun ov23 I24 J25 => (f63 r I24 J25).bind (fun (ov28, I29, J30) => (if x1 = 0 then some (.inl (I29 104 10), I29, J30) else some (.inl (I29 104 11), I29, J30)))) else pm_xb (f174 0 I J) (fun ov13 I14 J15 => (f63 r I14 J15).bind (fun (ov18, I19, J20) => (if x1 = 0 then some (.inl (I19 104 10), I19, J20) else some (.inl (I19 104 11), I19, J20))))))
theorem d190 {X : (Nat → Int32) × Nat} {d : Nat} {I : Nat → Nat → Int32} {J : Nat → Nat → Int64} {P : Nat → Nat → Value} {e r k r2 k2 : Nat} {x1 : Int32} {q : (Int32 ⊕ Nat) × (Nat → Nat → Int32) × (Nat → Nat → Int64)} (hw : pm_W P r k r2 k2) (he : e < 100000)  (h : f190 r x1 I J = some q) : pm_Fn X (d + 7) 190 1 [.ref 0, .int x1] (I, J, P, pm_T0, e) (pm_sI q.1) (q.2.1, q.2.2, P, pm_T0, pm_sE q.1 e) := by
  obtain ⟨hp, hw1, hw2, hw3, hw4, hw5, hw6, hw7, hw8, hw9, hw10, hw11⟩ := id hw
  have hwa := hw5.1
  have hwb := hw6.1
  have hwc := hw7.1
  have hwd := hw8.1
  unfold f190 at h
  refine fn_v rc190 (c := 11) (nf := 14) (by first | rfl | assumption) ml190 rfl rfl rfl rfl ?_
  refine al0 c190_0 ?_
  refine il1 c190_1 ?_
  refine r_ifeq (t := 10) c190_2 rfl (fun h1 => ?_) (fun h1 => ?_)
  · rw [if_pos h1] at h
    refine r_ic c190_10 kI1 ?_
    refine r_go (t := 15) c190_11 rfl ?_
    rcases pm_xb_sp h with ⟨ot6, I3, J4, e5, rfl⟩ | ⟨ov2, I3, J4, e5, h⟩
    · exact cx2 q190_15 hh190 (μ1 := (I3, J4, P, pm_T0, e + 1)) (d174 hw he e5) rfl
    refine cz2 q190_15 (μ1 := (I3, J4, P, pm_T0, e)) (d174 hw he e5) rfl ?_
    refine al0 c190_18 ?_
    refine r_gr g190_19 rfl rfl (hp _ _ _ rfl) ?_
    refine al0 c190_22 ?_
    refine r_gr g190_23 rfl rfl (hp _ _ _ rfl) ?_
    obtain ⟨⟨ov7, I8, J9⟩, e10, h⟩ := pm_bd_sp h
    dsimp only at h
    refine cz2 q190_26 (μ1 := (I8, J9, P, pm_T0, e)) (d63 hw e10) rfl ?_
    refine il1 c190_29 ?_
    refine r_ifne (t := 43) c190_30 rfl (fun h11 => ?_) (fun h11 => ?_)
    · rw [if_neg h11] at h
      refine al0 c190_43 ?_
      refine r_gr g190_44 rfl rfl (hp _ _ _ rfl) ?_
      refine cv1 q190_47 (s76 (by first | rfl | assumption)) rfl ?_
      cases h
      exact r_ri c190_50 rt190 rfl rfl
    · rw [if_pos h11] at h
      refine al0 c190_33 ?_
      refine r_gr g190_34 rfl rfl (hp _ _ _ rfl) ?_
      refine cv1 q190_37 (s75 (by first | rfl | assumption)) rfl ?_
      refine r_go (t := 50) c190_40 rfl ?_
      cases h
      exact r_ri c190_50 rt190 rfl rfl
  · rw [if_neg h1] at h
    refine il1 c190_5 ?_
    refine r_ic c190_6 kI1 ?_
    refine r_icne (t := 14) c190_7 rfl (fun h12 => ?_) (fun h12 => ?_)
    · rw [if_neg h12] at h
      refine r_ic c190_14 kI0 ?_
      rcases pm_xb_sp h with ⟨ot17, I14, J15, e16, rfl⟩ | ⟨ov13, I14, J15, e16, h⟩
      · exact cx2 q190_15 hh190 (μ1 := (I14, J15, P, pm_T0, e + 1)) (d174 hw he e16) rfl
      refine cz2 q190_15 (μ1 := (I14, J15, P, pm_T0, e)) (d174 hw he e16) rfl ?_
      refine al0 c190_18 ?_
      refine r_gr g190_19 rfl rfl (hp _ _ _ rfl) ?_
      refine al0 c190_22 ?_
      refine r_gr g190_23 rfl rfl (hp _ _ _ rfl) ?_
      obtain ⟨⟨ov18, I19, J20⟩, e21, h⟩ := pm_bd_sp h
      dsimp only at h
      refine cz2 q190_26 (μ1 := (I19, J20, P, pm_T0, e)) (d63 hw e21) rfl ?_
      refine il1 c190_29 ?_
      refine r_ifne (t := 43) c190_30 rfl (fun h22 => ?_) (fun h22 => ?_)
      · rw [if_neg h22] at h
        refine al0 c190_43 ?_
        refine r_gr g190_44 rfl rfl (hp _ _ _ rfl) ?_
        refine cv1 q190_47 (s76 (by first | rfl | assumption)) rfl ?_
        cases h
        exact r_ri c190_50 rt190 rfl rfl
      · rw [if_pos h22] at h
        refine al0 c190_33 ?_
        refine r_gr g190_34 rfl rfl (hp _ _ _ rfl) ?_
        refine cv1 q190_37 (s75 (by first | rfl | assumption)) rfl ?_
        refine r_go (t := 50) c190_40 rfl ?_
        cases h
        exact r_ri c190_50 rt190 rfl rfl
    · rw [if_pos h12] at h
      refine r_ic c190_10 kI1 ?_
      refine r_go (t := 15) c190_11 rfl ?_
      rcases pm_xb_sp h with ⟨ot27, I24, J25, e26, rfl⟩ | ⟨ov23, I24, J25, e26, h⟩
      · exact cx2 q190_15 hh190 (μ1 := (I24, J25, P, pm_T0, e + 1)) (d174 hw he e26) rfl
      refine cz2 q190_15 (μ1 := (I24, J25, P, pm_T0, e)) (d174 hw he e26) rfl ?_
      refine al0 c190_18 ?_
      refine r_gr g190_19 rfl rfl (hp _ _ _ rfl) ?_
      refine al0 c190_22 ?_
      refine r_gr g190_23 rfl rfl (hp _ _ _ rfl) ?_
      obtain ⟨⟨ov28, I29, J30⟩, e31, h⟩ := pm_bd_sp h
      dsimp only at h
      refine cz2 q190_26 (μ1 := (I29, J30, P, pm_T0, e)) (d63 hw e31) rfl ?_
      refine il1 c190_29 ?_
      refine r_ifne (t := 43) c190_30 rfl (fun h32 => ?_) (fun h32 => ?_)
      · rw [if_neg h32] at h
        refine al0 c190_43 ?_
        refine r_gr g190_44 rfl rfl (hp _ _ _ rfl) ?_
        refine cv1 q190_47 (s76 (by first | rfl | assumption)) rfl ?_
        cases h
        exact r_ri c190_50 rt190 rfl rfl
      · rw [if_pos h32] at h
        refine al0 c190_33 ?_
        refine r_gr g190_34 rfl rfl (hp _ _ _ rfl) ?_
        refine cv1 q190_37 (s75 (by first | rfl | assumption)) rfl ?_
        refine r_go (t := 50) c190_40 rfl ?_
        cases h
        exact r_ri c190_50 rt190 rfl rfl
def f191 (r : Nat) (x1 : Int32) (I : Nat → Nat → Int32) (J : Nat → Nat → Int64) : Option ((Int32 ⊕ Nat) × (Nat → Nat → Int32) × (Nat → Nat → Int64)) := pm_xb (f180 r x1 I J) (fun ov1 I2 J3 => (f63 r I2 J3).bind (fun (ov6, I7, J8) => (f77 x1 I7 J8).bind (fun (ov10, I11, J12) => some (.inl ov10, I11, J12))))
theorem d191 {X : (Nat → Int32) × Nat} {d : Nat} {I : Nat → Nat → Int32} {J : Nat → Nat → Int64} {P : Nat → Nat → Value} {e r k r2 k2 : Nat} {x1 : Int32} {q : (Int32 ⊕ Nat) × (Nat → Nat → Int32) × (Nat → Nat → Int64)} (hw : pm_W P r k r2 k2) (he : e < 100000)  (h : f191 r x1 I J = some q) : pm_Fn X (d + 7) 191 1 [.ref 0, .int x1] (I, J, P, pm_T0, e) (pm_sI q.1) (q.2.1, q.2.2, P, pm_T0, pm_sE q.1 e) := by
  obtain ⟨hp, hw1, hw2, hw3, hw4, hw5, hw6, hw7, hw8, hw9, hw10, hw11⟩ := id hw
  have hwa := hw5.1
  have hwb := hw6.1
  have hwc := hw7.1
  have hwd := hw8.1
  unfold f191 at h
  refine fn_v rc191 (c := 11) (nf := 14) (by first | rfl | assumption) ml191 rfl rfl rfl rfl ?_
  refine al0 c191_0 ?_
  refine il1 c191_1 ?_
  rcases pm_xb_sp h with ⟨ot5, I2, J3, e4, rfl⟩ | ⟨ov1, I2, J3, e4, h⟩
  · exact cx2 q191_2 hh191 (μ1 := (I2, J3, P, pm_T0, e + 1)) (d180 hw he e4) rfl
  refine cz2 q191_2 (μ1 := (I2, J3, P, pm_T0, e)) (d180 hw he e4) rfl ?_
  refine al0 c191_5 ?_
  refine r_gr g191_6 rfl rfl (hp _ _ _ rfl) ?_
  refine al0 c191_9 ?_
  refine r_gr g191_10 rfl rfl (hp _ _ _ rfl) ?_
  obtain ⟨⟨ov6, I7, J8⟩, e9, h⟩ := pm_bd_sp h
  dsimp only at h
  refine cz2 q191_13 (μ1 := (I7, J8, P, pm_T0, e)) (d63 hw e9) rfl ?_
  refine al0 c191_16 ?_
  refine r_gr g191_17 rfl rfl (hp _ _ _ rfl) ?_
  refine il1 c191_20 ?_
  obtain ⟨⟨ov10, I11, J12⟩, e13, h⟩ := pm_bd_sp h
  dsimp only at h
  refine cv2 q191_21 (v := .int ov10) (μ1 := (I11, J12, P, pm_T0, e)) (d77 hw e13) rfl ?_
  cases h
  exact r_ri c191_24 rt191 rfl rfl
def f192 (r : Nat) (x1 : Int32) (I : Nat → Nat → Int32) (J : Nat → Nat → Int64) : Option ((Int32 ⊕ Nat) × (Nat → Nat → Int32) × (Nat → Nat → Int64)) := pm_xb (f180 r x1 I J) (fun ov1 I2 J3 => (f84 r x1 I2 J3).bind (fun (ov6, I7, J8) => some (.inl ov6, I7, J8)))
theorem d192 {X : (Nat → Int32) × Nat} {d : Nat} {I : Nat → Nat → Int32} {J : Nat → Nat → Int64} {P : Nat → Nat → Value} {e r k r2 k2 : Nat} {x1 : Int32} {q : (Int32 ⊕ Nat) × (Nat → Nat → Int32) × (Nat → Nat → Int64)} (hw : pm_W P r k r2 k2) (he : e < 100000)  (h : f192 r x1 I J = some q) : pm_Fn X (d + 2) 192 1 [.ref 0, .int x1] (I, J, P, pm_T0, e) (pm_sI q.1) (q.2.1, q.2.2, P, pm_T0, pm_sE q.1 e) := by
  obtain ⟨hp, hw1, hw2, hw3, hw4, hw5, hw6, hw7, hw8, hw9, hw10, hw11⟩ := id hw
  have hwa := hw5.1
  have hwb := hw6.1
  have hwc := hw7.1
  have hwd := hw8.1
  unfold f192 at h
  refine fn_v rc192 (c := 11) (nf := 14) (by first | rfl | assumption) ml192 rfl rfl rfl rfl ?_
  refine al0 c192_0 ?_
  refine il1 c192_1 ?_
  rcases pm_xb_sp h with ⟨ot5, I2, J3, e4, rfl⟩ | ⟨ov1, I2, J3, e4, h⟩
  · exact cx2 q192_2 hh192 (μ1 := (I2, J3, P, pm_T0, e + 1)) (d180 hw he e4) rfl
  refine cz2 q192_2 (μ1 := (I2, J3, P, pm_T0, e)) (d180 hw he e4) rfl ?_
  refine al0 c192_5 ?_
  refine r_gr g192_6 rfl rfl (hp _ _ _ rfl) ?_
  refine cv1 q192_9 (s37 (by assumption)) rfl ?_
  refine il1 c192_12 ?_
  obtain ⟨⟨ov6, I7, J8⟩, e9, h⟩ := pm_bd_sp h
  dsimp only at h
  refine cv2 q192_13 (v := .int ov6) (μ1 := (I7, J8, P, pm_T0, e)) (d84 hw (by first | rfl | assumption | decide) e9) rfl ?_
  cases h
  exact r_ri c192_16 rt192 rfl rfl
def f193 (r : Nat) (x1 : Int32) (I : Nat → Nat → Int32) (J : Nat → Nat → Int64) : Option ((Int32 ⊕ Nat) × (Nat → Nat → Int32) × (Nat → Nat → Int64)) := pm_xb (f180 r x1 I J) (fun ov1 I2 J3 => (f58 r x1 I2 J3).bind (fun (ov6, I7, J8) => some (.inl ov6, I7, J8)))
theorem d193 {X : (Nat → Int32) × Nat} {d : Nat} {I : Nat → Nat → Int32} {J : Nat → Nat → Int64} {P : Nat → Nat → Value} {e r k r2 k2 : Nat} {x1 : Int32} {q : (Int32 ⊕ Nat) × (Nat → Nat → Int32) × (Nat → Nat → Int64)} (hw : pm_W P r k r2 k2) (he : e < 100000)  (h : f193 r x1 I J = some q) : pm_Fn X (d + 5) 193 1 [.ref 0, .int x1] (I, J, P, pm_T0, e) (pm_sI q.1) (q.2.1, q.2.2, P, pm_T0, pm_sE q.1 e) := by
  obtain ⟨hp, hw1, hw2, hw3, hw4, hw5, hw6, hw7, hw8, hw9, hw10, hw11⟩ := id hw
  have hwa := hw5.1
  have hwb := hw6.1
  have hwc := hw7.1
  have hwd := hw8.1
  unfold f193 at h
  refine fn_v rc193 (c := 11) (nf := 14) (by first | rfl | assumption) ml193 rfl rfl rfl rfl ?_
  refine al0 c193_0 ?_
  refine il1 c193_1 ?_
  rcases pm_xb_sp h with ⟨ot5, I2, J3, e4, rfl⟩ | ⟨ov1, I2, J3, e4, h⟩
  · exact cx2 q193_2 hh193 (μ1 := (I2, J3, P, pm_T0, e + 1)) (d180 hw he e4) rfl
  refine cz2 q193_2 (μ1 := (I2, J3, P, pm_T0, e)) (d180 hw he e4) rfl ?_
  refine al0 c193_5 ?_
  refine r_gr g193_6 rfl rfl (hp _ _ _ rfl) ?_
  refine il1 c193_9 ?_
  obtain ⟨⟨ov6, I7, J8⟩, e9, h⟩ := pm_bd_sp h
  dsimp only at h
  refine cv2 q193_10 (v := .int ov6) (μ1 := (I7, J8, P, pm_T0, e)) (d58 hw e9) rfl ?_
  cases h
  exact r_ri c193_13 rt193 rfl rfl
def f194 (r : Nat) (x1 : Int32) (I : Nat → Nat → Int32) (J : Nat → Nat → Int64) : Option ((Bool ⊕ Nat) × (Nat → Nat → Int32) × (Nat → Nat → Int64)) := pm_xb (f180 r x1 I J) (fun ov1 I2 J3 => (f58 r x1 I2 J3).bind (fun (ov6, I7, J8) => some (.inl (v48 x1 ov6 I7), I7, J8)))
theorem d194 {X : (Nat → Int32) × Nat} {d : Nat} {I : Nat → Nat → Int32} {J : Nat → Nat → Int64} {P : Nat → Nat → Value} {e r k r2 k2 : Nat} {x1 : Int32} {q : (Bool ⊕ Nat) × (Nat → Nat → Int32) × (Nat → Nat → Int64)} (hw : pm_W P r k r2 k2) (he : e < 100000)  (h : f194 r x1 I J = some q) : pm_Fn X (d + 5) 194 1 [.ref 0, .int x1] (I, J, P, pm_T0, e) (pm_sZ q.1) (q.2.1, q.2.2, P, pm_T0, pm_sE q.1 e) := by
  obtain ⟨hp, hw1, hw2, hw3, hw4, hw5, hw6, hw7, hw8, hw9, hw10, hw11⟩ := id hw
  have hwa := hw5.1
  have hwb := hw6.1
  have hwc := hw7.1
  have hwd := hw8.1
  unfold f194 at h
  refine fn_v rc194 (c := 11) (nf := 14) (by first | rfl | assumption) ml194 rfl rfl rfl rfl ?_
  refine al0 c194_0 ?_
  refine il1 c194_1 ?_
  rcases pm_xb_sp h with ⟨ot5, I2, J3, e4, rfl⟩ | ⟨ov1, I2, J3, e4, h⟩
  · exact cx2 q194_2 hh194 (μ1 := (I2, J3, P, pm_T0, e + 1)) (d180 hw he e4) rfl
  refine cz2 q194_2 (μ1 := (I2, J3, P, pm_T0, e)) (d180 hw he e4) rfl ?_
  refine al0 c194_5 ?_
  refine r_gr g194_6 rfl rfl (hp _ _ _ rfl) ?_
  refine il1 c194_9 ?_
  refine al0 c194_10 ?_
  refine r_gr g194_11 rfl rfl (hp _ _ _ rfl) ?_
  refine il1 c194_14 ?_
  obtain ⟨⟨ov6, I7, J8⟩, e9, h⟩ := pm_bd_sp h
  dsimp only at h
  refine cv2 q194_15 (v := .int ov6) (μ1 := (I7, J8, P, pm_T0, e)) (d58 hw e9) rfl ?_
  refine cv3 q194_18 (d48 hw rfl) rfl ?_
  cases h
  exact r_rz c194_21 rt194 (pm_bi01 _) rfl rfl
def f195 (r : Nat) (x1 : Int32) (I : Nat → Nat → Int32) (J : Nat → Nat → Int64) : Option ((Int32 ⊕ Nat) × (Nat → Nat → Int32) × (Nat → Nat → Int64)) := (if x1.toInt < 0 then pm_xb (f174 0 I J) (fun ov2 I3 J4 => (f36 r 0 I3 J4).bind (fun (ov7, I8, J9) => some (.inl (ov7 * x1), I8, J9))) else (if (99 : Int32).toInt < x1.toInt then pm_xb (f174 0 I J) (fun ov12 I13 J14 => (f36 r 0 I13 J14).bind (fun (ov17, I18, J19) => some (.inl (ov17 * x1), I18, J19))) else pm_xb (f174 1 I J) (fun ov21 I22 J23 => (f36 r 0 I22 J23).bind (fun (ov26, I27, J28) => some (.inl (ov26 * x1), I27, J28)))))
theorem d195 {X : (Nat → Int32) × Nat} {d : Nat} {I : Nat → Nat → Int32} {J : Nat → Nat → Int64} {P : Nat → Nat → Value} {e r k r2 k2 : Nat} {x1 : Int32} {q : (Int32 ⊕ Nat) × (Nat → Nat → Int32) × (Nat → Nat → Int64)} (hw : pm_W P r k r2 k2) (he : e < 100000)  (h : f195 r x1 I J = some q) : pm_Fn X (d + 4) 195 1 [.ref 0, .int x1] (I, J, P, pm_T0, e) (pm_sI q.1) (q.2.1, q.2.2, P, pm_T0, pm_sE q.1 e) := by
  obtain ⟨hp, hw1, hw2, hw3, hw4, hw5, hw6, hw7, hw8, hw9, hw10, hw11⟩ := id hw
  have hwa := hw5.1
  have hwb := hw6.1
  have hwc := hw7.1
  have hwd := hw8.1
  unfold f195 at h
  refine fn_v rc195 (c := 11) (nf := 14) (by first | rfl | assumption) ml195 rfl rfl rfl rfl ?_
  refine al0 c195_0 ?_
  refine il1 c195_1 ?_
  refine r_iflt (t := 15) c195_2 rfl (fun h1 => ?_) (fun h1 => ?_)
  · rw [if_pos h1] at h
    refine r_ic c195_15 kI0 ?_
    rcases pm_xb_sp h with ⟨ot6, I3, J4, e5, rfl⟩ | ⟨ov2, I3, J4, e5, h⟩
    · exact cx2 q195_16 hh195 (μ1 := (I3, J4, P, pm_T0, e + 1)) (d174 hw he e5) rfl
    refine cz2 q195_16 (μ1 := (I3, J4, P, pm_T0, e)) (d174 hw he e5) rfl ?_
    refine al0 c195_19 ?_
    refine r_gr g195_20 rfl rfl (hp _ _ _ rfl) ?_
    refine r_ic c195_23 kI0 ?_
    obtain ⟨⟨ov7, I8, J9⟩, e10, h⟩ := pm_bd_sp h
    dsimp only at h
    refine cv2 q195_24 (v := .int ov7) (μ1 := (I8, J9, P, pm_T0, e)) (d36 hw e10) rfl ?_
    refine il1 c195_27 ?_
    refine r_imul c195_28 ?_
    cases h
    exact r_ri c195_29 rt195 rfl rfl
  · rw [if_neg (Int.not_lt.mpr h1)] at h
    refine il1 c195_5 ?_
    refine r_bi c195_6 kB99 ?_
    refine r_icgt (t := 15) c195_8 rfl (fun h11 => ?_) (fun h11 => ?_)
    · rw [if_pos h11] at h
      refine r_ic c195_15 kI0 ?_
      rcases pm_xb_sp h with ⟨ot16, I13, J14, e15, rfl⟩ | ⟨ov12, I13, J14, e15, h⟩
      · exact cx2 q195_16 hh195 (μ1 := (I13, J14, P, pm_T0, e + 1)) (d174 hw he e15) rfl
      refine cz2 q195_16 (μ1 := (I13, J14, P, pm_T0, e)) (d174 hw he e15) rfl ?_
      refine al0 c195_19 ?_
      refine r_gr g195_20 rfl rfl (hp _ _ _ rfl) ?_
      refine r_ic c195_23 kI0 ?_
      obtain ⟨⟨ov17, I18, J19⟩, e20, h⟩ := pm_bd_sp h
      dsimp only at h
      refine cv2 q195_24 (v := .int ov17) (μ1 := (I18, J19, P, pm_T0, e)) (d36 hw e20) rfl ?_
      refine il1 c195_27 ?_
      refine r_imul c195_28 ?_
      cases h
      exact r_ri c195_29 rt195 rfl rfl
    · rw [if_neg (Int.not_lt.mpr h11)] at h
      refine r_ic c195_11 kI1 ?_
      refine r_go (t := 16) c195_12 rfl ?_
      rcases pm_xb_sp h with ⟨ot25, I22, J23, e24, rfl⟩ | ⟨ov21, I22, J23, e24, h⟩
      · exact cx2 q195_16 hh195 (μ1 := (I22, J23, P, pm_T0, e + 1)) (d174 hw he e24) rfl
      refine cz2 q195_16 (μ1 := (I22, J23, P, pm_T0, e)) (d174 hw he e24) rfl ?_
      refine al0 c195_19 ?_
      refine r_gr g195_20 rfl rfl (hp _ _ _ rfl) ?_
      refine r_ic c195_23 kI0 ?_
      obtain ⟨⟨ov26, I27, J28⟩, e29, h⟩ := pm_bd_sp h
      dsimp only at h
      refine cv2 q195_24 (v := .int ov26) (μ1 := (I27, J28, P, pm_T0, e)) (d36 hw e29) rfl ?_
      refine il1 c195_27 ?_
      refine r_imul c195_28 ?_
      cases h
      exact r_ri c195_29 rt195 rfl rfl
def f196 (r : Nat) (x1 : Int32) (I : Nat → Nat → Int32) (J : Nat → Nat → Int64) : Option ((Int32 ⊕ Nat) × (Nat → Nat → Int32) × (Nat → Nat → Int64)) := (if x1.toInt < 0 then pm_xb (f174 0 I J) (fun ov2 I3 J4 => (f36 r 0 I3 J4).bind (fun (ov7, I8, J9) => (if 0 < ov7.toInt then pm_gd (!decide (ov7 = 0)) (some (.inl (pm_min x1 ((v108  I8) / ov7)), I8, J9)) else some (.inl (-1), I8, J9)))) else (if (99 : Int32).toInt < x1.toInt then pm_xb (f174 0 I J) (fun ov14 I15 J16 => (f36 r 0 I15 J16).bind (fun (ov19, I20, J21) => (if 0 < ov19.toInt then pm_gd (!decide (ov19 = 0)) (some (.inl (pm_min x1 ((v108  I20) / ov19)), I20, J21)) else some (.inl (-1), I20, J21)))) else pm_xb (f174 1 I J) (fun ov25 I26 J27 => (f36 r 0 I26 J27).bind (fun (ov30, I31, J32) => (if 0 < ov30.toInt then pm_gd (!decide (ov30 = 0)) (some (.inl (pm_min x1 ((v108  I31) / ov30)), I31, J32)) else some (.inl (-1), I31, J32))))))
theorem d196 {X : (Nat → Int32) × Nat} {d : Nat} {I : Nat → Nat → Int32} {J : Nat → Nat → Int64} {P : Nat → Nat → Value} {e r k r2 k2 : Nat} {x1 : Int32} {q : (Int32 ⊕ Nat) × (Nat → Nat → Int32) × (Nat → Nat → Int64)} (hw : pm_W P r k r2 k2) (he : e < 100000)  (h : f196 r x1 I J = some q) : pm_Fn X (d + 4) 196 1 [.ref 0, .int x1] (I, J, P, pm_T0, e) (pm_sI q.1) (q.2.1, q.2.2, P, pm_T0, pm_sE q.1 e) := by
  obtain ⟨hp, hw1, hw2, hw3, hw4, hw5, hw6, hw7, hw8, hw9, hw10, hw11⟩ := id hw
  have hwa := hw5.1
  have hwb := hw6.1
  have hwc := hw7.1
  have hwd := hw8.1
  unfold f196 at h
  refine fn_v rc196 (c := 11) (nf := 14) (by first | rfl | assumption) ml196 rfl rfl rfl rfl ?_
  refine al0 c196_0 ?_
  refine il1 c196_1 ?_
  refine r_iflt (t := 15) c196_2 rfl (fun h1 => ?_) (fun h1 => ?_)
  · rw [if_pos h1] at h
    refine r_ic c196_15 kI0 ?_
    rcases pm_xb_sp h with ⟨ot6, I3, J4, e5, rfl⟩ | ⟨ov2, I3, J4, e5, h⟩
    · exact cx2 q196_16 hh196 (μ1 := (I3, J4, P, pm_T0, e + 1)) (d174 hw he e5) rfl
    refine cz2 q196_16 (μ1 := (I3, J4, P, pm_T0, e)) (d174 hw he e5) rfl ?_
    refine al0 c196_19 ?_
    refine r_gr g196_20 rfl rfl (hp _ _ _ rfl) ?_
    refine r_ic c196_23 kI0 ?_
    obtain ⟨⟨ov7, I8, J9⟩, e10, h⟩ := pm_bd_sp h
    dsimp only at h
    refine cv2 q196_24 (v := .int ov7) (μ1 := (I8, J9, P, pm_T0, e)) (d36 hw e10) rfl ?_
    refine is2 c196_27 rfl ?_
    refine il2 c196_28 ?_
    refine r_ifgt (t := 36) c196_29 rfl (fun h11 => ?_) (fun h11 => ?_)
    · rw [if_pos h11] at h
      refine il1 c196_36 ?_
      refine al0 c196_37 ?_
      refine r_gr g196_38 rfl rfl (hp _ _ _ rfl) ?_
      refine cv1 q196_41 (s28 (hp _ _ _ rfl)) rfl ?_
      refine cv1 q196_44 (d108 hw rfl) rfl ?_
      refine il2 c196_47 ?_
      obtain ⟨gd12, h⟩ := pm_gd_sp h
      refine r_idiv c196_48 (by simpa using gd12) ?_
      refine cv2 q196_49 s363 rfl ?_
      cases h
      exact r_ri c196_52 rt196 rfl rfl
    · rw [if_neg (Int.not_lt.mpr h11)] at h
      refine r_ic c196_32 kIm1 ?_
      refine r_go (t := 52) c196_33 rfl ?_
      cases h
      exact r_ri c196_52 rt196 rfl rfl
  · rw [if_neg (Int.not_lt.mpr h1)] at h
    refine il1 c196_5 ?_
    refine r_bi c196_6 kB99 ?_
    refine r_icgt (t := 15) c196_8 rfl (fun h13 => ?_) (fun h13 => ?_)
    · rw [if_pos h13] at h
      refine r_ic c196_15 kI0 ?_
      rcases pm_xb_sp h with ⟨ot18, I15, J16, e17, rfl⟩ | ⟨ov14, I15, J16, e17, h⟩
      · exact cx2 q196_16 hh196 (μ1 := (I15, J16, P, pm_T0, e + 1)) (d174 hw he e17) rfl
      refine cz2 q196_16 (μ1 := (I15, J16, P, pm_T0, e)) (d174 hw he e17) rfl ?_
      refine al0 c196_19 ?_
      refine r_gr g196_20 rfl rfl (hp _ _ _ rfl) ?_
      refine r_ic c196_23 kI0 ?_
      obtain ⟨⟨ov19, I20, J21⟩, e22, h⟩ := pm_bd_sp h
      dsimp only at h
      refine cv2 q196_24 (v := .int ov19) (μ1 := (I20, J21, P, pm_T0, e)) (d36 hw e22) rfl ?_
      refine is2 c196_27 rfl ?_
      refine il2 c196_28 ?_
      refine r_ifgt (t := 36) c196_29 rfl (fun h23 => ?_) (fun h23 => ?_)
      · rw [if_pos h23] at h
        refine il1 c196_36 ?_
        refine al0 c196_37 ?_
        refine r_gr g196_38 rfl rfl (hp _ _ _ rfl) ?_
        refine cv1 q196_41 (s28 (hp _ _ _ rfl)) rfl ?_
        refine cv1 q196_44 (d108 hw rfl) rfl ?_
        refine il2 c196_47 ?_
        obtain ⟨gd24, h⟩ := pm_gd_sp h
        refine r_idiv c196_48 (by simpa using gd24) ?_
        refine cv2 q196_49 s363 rfl ?_
        cases h
        exact r_ri c196_52 rt196 rfl rfl
      · rw [if_neg (Int.not_lt.mpr h23)] at h
        refine r_ic c196_32 kIm1 ?_
        refine r_go (t := 52) c196_33 rfl ?_
        cases h
        exact r_ri c196_52 rt196 rfl rfl
    · rw [if_neg (Int.not_lt.mpr h13)] at h
      refine r_ic c196_11 kI1 ?_
      refine r_go (t := 16) c196_12 rfl ?_
      rcases pm_xb_sp h with ⟨ot29, I26, J27, e28, rfl⟩ | ⟨ov25, I26, J27, e28, h⟩
      · exact cx2 q196_16 hh196 (μ1 := (I26, J27, P, pm_T0, e + 1)) (d174 hw he e28) rfl
      refine cz2 q196_16 (μ1 := (I26, J27, P, pm_T0, e)) (d174 hw he e28) rfl ?_
      refine al0 c196_19 ?_
      refine r_gr g196_20 rfl rfl (hp _ _ _ rfl) ?_
      refine r_ic c196_23 kI0 ?_
      obtain ⟨⟨ov30, I31, J32⟩, e33, h⟩ := pm_bd_sp h
      dsimp only at h
      refine cv2 q196_24 (v := .int ov30) (μ1 := (I31, J32, P, pm_T0, e)) (d36 hw e33) rfl ?_
      refine is2 c196_27 rfl ?_
      refine il2 c196_28 ?_
      refine r_ifgt (t := 36) c196_29 rfl (fun h34 => ?_) (fun h34 => ?_)
      · rw [if_pos h34] at h
        refine il1 c196_36 ?_
        refine al0 c196_37 ?_
        refine r_gr g196_38 rfl rfl (hp _ _ _ rfl) ?_
        refine cv1 q196_41 (s28 (hp _ _ _ rfl)) rfl ?_
        refine cv1 q196_44 (d108 hw rfl) rfl ?_
        refine il2 c196_47 ?_
        obtain ⟨gd35, h⟩ := pm_gd_sp h
        refine r_idiv c196_48 (by simpa using gd35) ?_
        refine cv2 q196_49 s363 rfl ?_
        cases h
        exact r_ri c196_52 rt196 rfl rfl
      · rw [if_neg (Int.not_lt.mpr h34)] at h
        refine r_ic c196_32 kIm1 ?_
        refine r_go (t := 52) c196_33 rfl ?_
        cases h
        exact r_ri c196_52 rt196 rfl rfl
def f197 (r : Nat) (k : Nat) (x1 : Int32) (x2 : Int32) (I : Nat → Nat → Int32) (J : Nat → Nat → Int64) : Option ((Int32 ⊕ Nat) × (Nat → Nat → Int32) × (Nat → Nat → Int64)) := pm_xb (f180 r x1 I J) (fun ov1 I2 J3 => (if x2.toInt < 0 then pm_xb (f174 0 I2 J3) (fun ov7 I8 J9 => (f143 r k x1 I8 J9).bind (fun (ov12, I13, J14) => (if x2 = 0 then some (.inl (I13 102 1), I13, J14) else if x2 = 1 then some (.inl (I13 102 2), I13, J14) else if x2 = 2 then some (.inl (I13 102 3), I13, J14) else some (.inl (I13 102 4), I13, J14)))) else (if (3 : Int32).toInt < x2.toInt then pm_xb (f174 0 I2 J3) (fun ov20 I21 J22 => (f143 r k x1 I21 J22).bind (fun (ov25, I26, J27) => (if x2 = 0 then some (.inl (I26 102 1), I26, J27) else if x2 = 1 then some (.inl (I26 102 2), I26, J27) else if x2 = 2 then some (.inl (I26 102 3), I26, J27) else some (.inl (I26 102 4), I26, J27)))) else pm_xb (f174 1 I2 J3) (fun ov32 I33 J34 => (f143 r k x1 I33 J34).bind (fun (ov37, I38, J39) => (if x2 = 0 then some (.inl (I38 102 1), I38, J39) else if x2 = 1 then some (.inl (I38 102 2), I38, J39) else if x2 = 2 then some (.inl (I38 102 3), I38, J39) else some (.inl (I38 102 4), I38, J39)))))))
theorem d197 {X : (Nat → Int32) × Nat} {d : Nat} {I : Nat → Nat → Int32} {J : Nat → Nat → Int64} {P : Nat → Nat → Value} {e r k r2 k2 : Nat} {x1 : Int32} {x2 : Int32} {q : (Int32 ⊕ Nat) × (Nat → Nat → Int32) × (Nat → Nat → Int64)} (hw : pm_W P r k r2 k2) (he : e < 100000)  (h : f197 r k x1 x2 I J = some q) : pm_Fn X (d + 5) 197 1 [.ref 0, .int x1, .int x2] (I, J, P, pm_T0, e) (pm_sI q.1) (q.2.1, q.2.2, P, pm_T0, pm_sE q.1 e) := by
  obtain ⟨hp, hw1, hw2, hw3, hw4, hw5, hw6, hw7, hw8, hw9, hw10, hw11⟩ := id hw
  have hwa := hw5.1
  have hwb := hw6.1
  have hwc := hw7.1
  have hwd := hw8.1
  unfold f197 at h
  refine fn_v rc197 (c := 11) (nf := 14) (by first | rfl | assumption) ml197 rfl rfl rfl rfl ?_
  refine al0 c197_0 ?_
  refine il1 c197_1 ?_
  rcases pm_xb_sp h with ⟨ot5, I2, J3, e4, rfl⟩ | ⟨ov1, I2, J3, e4, h⟩
  · exact cx2 q197_2 hh197 (μ1 := (I2, J3, P, pm_T0, e + 1)) (d180 hw he e4) rfl
  refine cz2 q197_2 (μ1 := (I2, J3, P, pm_T0, e)) (d180 hw he e4) rfl ?_
  refine al0 c197_5 ?_
  refine il2 c197_6 ?_
  refine r_iflt (t := 19) c197_7 rfl (fun h6 => ?_) (fun h6 => ?_)
  · rw [if_pos h6] at h
    refine r_ic c197_19 kI0 ?_
    rcases pm_xb_sp h with ⟨ot11, I8, J9, e10, rfl⟩ | ⟨ov7, I8, J9, e10, h⟩
    · exact cx2 q197_20 hh197 (μ1 := (I8, J9, P, pm_T0, e + 1)) (d174 hw he e10) rfl
    refine cz2 q197_20 (μ1 := (I8, J9, P, pm_T0, e)) (d174 hw he e10) rfl ?_
    refine al0 c197_23 ?_
    refine r_gr g197_24 rfl rfl (hp _ _ _ rfl) ?_
    refine al0 c197_27 ?_
    refine r_gr g197_28 rfl rfl (hp _ _ _ rfl) ?_
    refine al0 c197_31 ?_
    refine r_gr g197_32 rfl rfl hw2 ?_
    refine il1 c197_35 ?_
    obtain ⟨⟨ov12, I13, J14⟩, e15, h⟩ := pm_bd_sp h
    dsimp only at h
    refine cz4 q197_36 (μ1 := (I13, J14, P, pm_T0, e)) (d143 hw (by first | rfl | assumption | decide) e15) rfl ?_
    refine il2 c197_39 ?_
    by_cases h16 : x2 = 0
    · rw [if_pos h16] at h
      refine r_ts (t := 68) (o := 28) c197_40 (by rw [h16]; decide) rfl ?_
      refine al0 c197_68 ?_
      refine r_gr g197_69 rfl rfl (hp _ _ _ rfl) ?_
      refine cv1 q197_72 (s146 (by first | rfl | assumption)) rfl ?_
      cases h
      exact r_ri c197_75 rt197 rfl rfl
    · rw [if_neg h16] at h
      by_cases h17 : x2 = 1
      · rw [if_pos h17] at h
        refine r_ts (t := 76) (o := 36) c197_40 (by rw [h17]; decide) rfl ?_
        refine al0 c197_76 ?_
        refine r_gr g197_77 rfl rfl (hp _ _ _ rfl) ?_
        refine cv1 q197_80 (s147 (by first | rfl | assumption)) rfl ?_
        cases h
        exact r_ri c197_83 rt197 rfl rfl
      · rw [if_neg h17] at h
        by_cases h18 : x2 = 2
        · rw [if_pos h18] at h
          refine r_ts (t := 84) (o := 44) c197_40 (by rw [h18]; decide) rfl ?_
          refine al0 c197_84 ?_
          refine r_gr g197_85 rfl rfl (hp _ _ _ rfl) ?_
          refine cv1 q197_88 (s148 (by first | rfl | assumption)) rfl ?_
          cases h
          exact r_ri c197_91 rt197 rfl rfl
        · rw [if_neg h18] at h
          refine r_ts (t := 92) (o := 52) c197_40 (pm_tsd x2 [0, 1, 2] (by decide) (by intro v hv; simp only [List.mem_cons, List.not_mem_nil, or_false] at hv; rcases hv with rfl | rfl | rfl <;> assumption)) rfl ?_
          refine al0 c197_92 ?_
          refine r_gr g197_93 rfl rfl (hp _ _ _ rfl) ?_
          refine cv1 q197_96 (s149 (by first | rfl | assumption)) rfl ?_
          cases h
          exact r_ri c197_99 rt197 rfl rfl
  · rw [if_neg (Int.not_lt.mpr h6)] at h
    refine il2 c197_10 ?_
    refine r_ic c197_11 kI3 ?_
    refine r_icgt (t := 19) c197_12 rfl (fun h19 => ?_) (fun h19 => ?_)
    · rw [if_pos h19] at h
      refine r_ic c197_19 kI0 ?_
      rcases pm_xb_sp h with ⟨ot24, I21, J22, e23, rfl⟩ | ⟨ov20, I21, J22, e23, h⟩
      · exact cx2 q197_20 hh197 (μ1 := (I21, J22, P, pm_T0, e + 1)) (d174 hw he e23) rfl
      refine cz2 q197_20 (μ1 := (I21, J22, P, pm_T0, e)) (d174 hw he e23) rfl ?_
      refine al0 c197_23 ?_
      refine r_gr g197_24 rfl rfl (hp _ _ _ rfl) ?_
      refine al0 c197_27 ?_
      refine r_gr g197_28 rfl rfl (hp _ _ _ rfl) ?_
      refine al0 c197_31 ?_
      refine r_gr g197_32 rfl rfl hw2 ?_
      refine il1 c197_35 ?_
      obtain ⟨⟨ov25, I26, J27⟩, e28, h⟩ := pm_bd_sp h
      dsimp only at h
      refine cz4 q197_36 (μ1 := (I26, J27, P, pm_T0, e)) (d143 hw (by first | rfl | assumption | decide) e28) rfl ?_
      refine il2 c197_39 ?_
      by_cases h29 : x2 = 0
      · rw [if_pos h29] at h
        refine r_ts (t := 68) (o := 28) c197_40 (by rw [h29]; decide) rfl ?_
        refine al0 c197_68 ?_
        refine r_gr g197_69 rfl rfl (hp _ _ _ rfl) ?_
        refine cv1 q197_72 (s146 (by first | rfl | assumption)) rfl ?_
        cases h
        exact r_ri c197_75 rt197 rfl rfl
      · rw [if_neg h29] at h
        by_cases h30 : x2 = 1
        · rw [if_pos h30] at h
          refine r_ts (t := 76) (o := 36) c197_40 (by rw [h30]; decide) rfl ?_
          refine al0 c197_76 ?_
          refine r_gr g197_77 rfl rfl (hp _ _ _ rfl) ?_
          refine cv1 q197_80 (s147 (by first | rfl | assumption)) rfl ?_
          cases h
          exact r_ri c197_83 rt197 rfl rfl
        · rw [if_neg h30] at h
          by_cases h31 : x2 = 2
          · rw [if_pos h31] at h
            refine r_ts (t := 84) (o := 44) c197_40 (by rw [h31]; decide) rfl ?_
            refine al0 c197_84 ?_
            refine r_gr g197_85 rfl rfl (hp _ _ _ rfl) ?_
            refine cv1 q197_88 (s148 (by first | rfl | assumption)) rfl ?_
            cases h
            exact r_ri c197_91 rt197 rfl rfl
          · rw [if_neg h31] at h
            refine r_ts (t := 92) (o := 52) c197_40 (pm_tsd x2 [0, 1, 2] (by decide) (by intro v hv; simp only [List.mem_cons, List.not_mem_nil, or_false] at hv; rcases hv with rfl | rfl | rfl <;> assumption)) rfl ?_
            refine al0 c197_92 ?_
            refine r_gr g197_93 rfl rfl (hp _ _ _ rfl) ?_
            refine cv1 q197_96 (s149 (by first | rfl | assumption)) rfl ?_
            cases h
            exact r_ri c197_99 rt197 rfl rfl
    · rw [if_neg (Int.not_lt.mpr h19)] at h
      refine r_ic c197_15 kI1 ?_
      refine r_go (t := 20) c197_16 rfl ?_
      rcases pm_xb_sp h with ⟨ot36, I33, J34, e35, rfl⟩ | ⟨ov32, I33, J34, e35, h⟩
      · exact cx2 q197_20 hh197 (μ1 := (I33, J34, P, pm_T0, e + 1)) (d174 hw he e35) rfl
      refine cz2 q197_20 (μ1 := (I33, J34, P, pm_T0, e)) (d174 hw he e35) rfl ?_
      refine al0 c197_23 ?_
      refine r_gr g197_24 rfl rfl (hp _ _ _ rfl) ?_
      refine al0 c197_27 ?_
      refine r_gr g197_28 rfl rfl (hp _ _ _ rfl) ?_
      refine al0 c197_31 ?_
      refine r_gr g197_32 rfl rfl hw2 ?_
      refine il1 c197_35 ?_
      obtain ⟨⟨ov37, I38, J39⟩, e40, h⟩ := pm_bd_sp h
      dsimp only at h
      refine cz4 q197_36 (μ1 := (I38, J39, P, pm_T0, e)) (d143 hw (by first | rfl | assumption | decide) e40) rfl ?_
      refine il2 c197_39 ?_
      by_cases h41 : x2 = 0
      · rw [if_pos h41] at h
        refine r_ts (t := 68) (o := 28) c197_40 (by rw [h41]; decide) rfl ?_
        refine al0 c197_68 ?_
        refine r_gr g197_69 rfl rfl (hp _ _ _ rfl) ?_
        refine cv1 q197_72 (s146 (by first | rfl | assumption)) rfl ?_
        cases h
        exact r_ri c197_75 rt197 rfl rfl
      · rw [if_neg h41] at h
        by_cases h42 : x2 = 1
        · rw [if_pos h42] at h
          refine r_ts (t := 76) (o := 36) c197_40 (by rw [h42]; decide) rfl ?_
          refine al0 c197_76 ?_
          refine r_gr g197_77 rfl rfl (hp _ _ _ rfl) ?_
          refine cv1 q197_80 (s147 (by first | rfl | assumption)) rfl ?_
          cases h
          exact r_ri c197_83 rt197 rfl rfl
        · rw [if_neg h42] at h
          by_cases h43 : x2 = 2
          · rw [if_pos h43] at h
            refine r_ts (t := 84) (o := 44) c197_40 (by rw [h43]; decide) rfl ?_
            refine al0 c197_84 ?_
            refine r_gr g197_85 rfl rfl (hp _ _ _ rfl) ?_
            refine cv1 q197_88 (s148 (by first | rfl | assumption)) rfl ?_
            cases h
            exact r_ri c197_91 rt197 rfl rfl
          · rw [if_neg h43] at h
            refine r_ts (t := 92) (o := 52) c197_40 (pm_tsd x2 [0, 1, 2] (by decide) (by intro v hv; simp only [List.mem_cons, List.not_mem_nil, or_false] at hv; rcases hv with rfl | rfl | rfl <;> assumption)) rfl ?_
            refine al0 c197_92 ?_
            refine r_gr g197_93 rfl rfl (hp _ _ _ rfl) ?_
            refine cv1 q197_96 (s149 (by first | rfl | assumption)) rfl ?_
            cases h
            exact r_ri c197_99 rt197 rfl rfl
def f198 (r : Nat) (k : Nat) (x1 : Int32) (x2 : Int32) (I : Nat → Nat → Int32) (J : Nat → Nat → Int64) : Option ((Int32 ⊕ Nat) × (Nat → Nat → Int32) × (Nat → Nat → Int64)) := pm_xb (f180 r x1 I J) (fun ov1 I2 J3 => (if x2 = 0 then pm_xb (f174 1 I2 J3) (fun ov7 I8 J9 => (f143 r k x1 I8 J9).bind (fun (ov12, I13, J14) => (f150 k I13 J14).bind (fun (ov16, I17, J18) => (if x2 = 0 then some (.inl (I17 102 5), I17, J18) else some (.inl (I17 102 6), I17, J18))))) else (if x2 = 1 then pm_xb (f174 1 I2 J3) (fun ov36 I37 J38 => (f143 r k x1 I37 J38).bind (fun (ov41, I42, J43) => (f150 k I42 J43).bind (fun (ov45, I46, J47) => (if x2 = 0 then some (.inl (I46 102 5), I46, J47) else some (.inl (I46 102 6), I46, J47))))) else pm_xb (f174 0 I2 J3) (fun ov22 I23 J24 => (f143 r k x1 I23 J24).bind (fun (ov27, I28, J29) => (f150 k I28 J29).bind (fun (ov31, I32, J33) => (if x2 = 0 then some (.inl (I32 102 5), I32, J33) else some (.inl (I32 102 6), I32, J33))))))))
theorem d198 {X : (Nat → Int32) × Nat} {d : Nat} {I : Nat → Nat → Int32} {J : Nat → Nat → Int64} {P : Nat → Nat → Value} {e r k r2 k2 : Nat} {x1 : Int32} {x2 : Int32} {q : (Int32 ⊕ Nat) × (Nat → Nat → Int32) × (Nat → Nat → Int64)} (hw : pm_W P r k r2 k2) (he : e < 100000)  (h : f198 r k x1 x2 I J = some q) : pm_Fn X (d + 5) 198 1 [.ref 0, .int x1, .int x2] (I, J, P, pm_T0, e) (pm_sI q.1) (q.2.1, q.2.2, P, pm_T0, pm_sE q.1 e) := by
  obtain ⟨hp, hw1, hw2, hw3, hw4, hw5, hw6, hw7, hw8, hw9, hw10, hw11⟩ := id hw
  have hwa := hw5.1
  have hwb := hw6.1
  have hwc := hw7.1
  have hwd := hw8.1
  unfold f198 at h
  refine fn_v rc198 (c := 11) (nf := 14) (by first | rfl | assumption) ml198 rfl rfl rfl rfl ?_
  refine al0 c198_0 ?_
  refine il1 c198_1 ?_
  rcases pm_xb_sp h with ⟨ot5, I2, J3, e4, rfl⟩ | ⟨ov1, I2, J3, e4, h⟩
  · exact cx2 q198_2 hh198 (μ1 := (I2, J3, P, pm_T0, e + 1)) (d180 hw he e4) rfl
  refine cz2 q198_2 (μ1 := (I2, J3, P, pm_T0, e)) (d180 hw he e4) rfl ?_
  refine al0 c198_5 ?_
  refine il2 c198_6 ?_
  refine r_ifeq (t := 15) c198_7 rfl (fun h6 => ?_) (fun h6 => ?_)
  · rw [if_pos h6] at h
    refine r_ic c198_15 kI1 ?_
    refine r_go (t := 20) c198_16 rfl ?_
    rcases pm_xb_sp h with ⟨ot11, I8, J9, e10, rfl⟩ | ⟨ov7, I8, J9, e10, h⟩
    · exact cx2 q198_20 hh198 (μ1 := (I8, J9, P, pm_T0, e + 1)) (d174 hw he e10) rfl
    refine cz2 q198_20 (μ1 := (I8, J9, P, pm_T0, e)) (d174 hw he e10) rfl ?_
    refine al0 c198_23 ?_
    refine r_gr g198_24 rfl rfl (hp _ _ _ rfl) ?_
    refine al0 c198_27 ?_
    refine r_gr g198_28 rfl rfl (hp _ _ _ rfl) ?_
    refine al0 c198_31 ?_
    refine r_gr g198_32 rfl rfl hw2 ?_
    refine il1 c198_35 ?_
    obtain ⟨⟨ov12, I13, J14⟩, e15, h⟩ := pm_bd_sp h
    dsimp only at h
    refine cz4 q198_36 (μ1 := (I13, J14, P, pm_T0, e)) (d143 hw (by first | rfl | assumption | decide) e15) rfl ?_
    refine al0 c198_39 ?_
    refine r_gr g198_40 rfl rfl (hp _ _ _ rfl) ?_
    refine al0 c198_43 ?_
    refine r_gr g198_44 rfl rfl hw2 ?_
    obtain ⟨⟨ov16, I17, J18⟩, e19, h⟩ := pm_bd_sp h
    dsimp only at h
    refine cz2 q198_47 (μ1 := (I17, J18, P, pm_T0, e)) (d150 hw (by first | rfl | assumption | decide) e19) rfl ?_
    refine il2 c198_50 ?_
    refine r_ifne (t := 64) c198_51 rfl (fun h20 => ?_) (fun h20 => ?_)
    · rw [if_neg h20] at h
      refine al0 c198_64 ?_
      refine r_gr g198_65 rfl rfl (hp _ _ _ rfl) ?_
      refine cv1 q198_68 (s152 (by first | rfl | assumption)) rfl ?_
      cases h
      exact r_ri c198_71 rt198 rfl rfl
    · rw [if_pos h20] at h
      refine al0 c198_54 ?_
      refine r_gr g198_55 rfl rfl (hp _ _ _ rfl) ?_
      refine cv1 q198_58 (s151 (by first | rfl | assumption)) rfl ?_
      refine r_go (t := 71) c198_61 rfl ?_
      cases h
      exact r_ri c198_71 rt198 rfl rfl
  · rw [if_neg h6] at h
    refine il2 c198_10 ?_
    refine r_ic c198_11 kI1 ?_
    refine r_icne (t := 19) c198_12 rfl (fun h21 => ?_) (fun h21 => ?_)
    · rw [if_neg h21] at h
      refine r_ic c198_19 kI0 ?_
      rcases pm_xb_sp h with ⟨ot26, I23, J24, e25, rfl⟩ | ⟨ov22, I23, J24, e25, h⟩
      · exact cx2 q198_20 hh198 (μ1 := (I23, J24, P, pm_T0, e + 1)) (d174 hw he e25) rfl
      refine cz2 q198_20 (μ1 := (I23, J24, P, pm_T0, e)) (d174 hw he e25) rfl ?_
      refine al0 c198_23 ?_
      refine r_gr g198_24 rfl rfl (hp _ _ _ rfl) ?_
      refine al0 c198_27 ?_
      refine r_gr g198_28 rfl rfl (hp _ _ _ rfl) ?_
      refine al0 c198_31 ?_
      refine r_gr g198_32 rfl rfl hw2 ?_
      refine il1 c198_35 ?_
      obtain ⟨⟨ov27, I28, J29⟩, e30, h⟩ := pm_bd_sp h
      dsimp only at h
      refine cz4 q198_36 (μ1 := (I28, J29, P, pm_T0, e)) (d143 hw (by first | rfl | assumption | decide) e30) rfl ?_
      refine al0 c198_39 ?_
      refine r_gr g198_40 rfl rfl (hp _ _ _ rfl) ?_
      refine al0 c198_43 ?_
      refine r_gr g198_44 rfl rfl hw2 ?_
      obtain ⟨⟨ov31, I32, J33⟩, e34, h⟩ := pm_bd_sp h
      dsimp only at h
      refine cz2 q198_47 (μ1 := (I32, J33, P, pm_T0, e)) (d150 hw (by first | rfl | assumption | decide) e34) rfl ?_
      refine il2 c198_50 ?_
      refine r_ifne (t := 64) c198_51 rfl (fun h35 => ?_) (fun h35 => ?_)
      · rw [if_neg h35] at h
        refine al0 c198_64 ?_
        refine r_gr g198_65 rfl rfl (hp _ _ _ rfl) ?_
        refine cv1 q198_68 (s152 (by first | rfl | assumption)) rfl ?_
        cases h
        exact r_ri c198_71 rt198 rfl rfl
      · rw [if_pos h35] at h
        refine al0 c198_54 ?_
        refine r_gr g198_55 rfl rfl (hp _ _ _ rfl) ?_
        refine cv1 q198_58 (s151 (by first | rfl | assumption)) rfl ?_
        refine r_go (t := 71) c198_61 rfl ?_
        cases h
        exact r_ri c198_71 rt198 rfl rfl
    · rw [if_pos h21] at h
      refine r_ic c198_15 kI1 ?_
      refine r_go (t := 20) c198_16 rfl ?_
      rcases pm_xb_sp h with ⟨ot40, I37, J38, e39, rfl⟩ | ⟨ov36, I37, J38, e39, h⟩
      · exact cx2 q198_20 hh198 (μ1 := (I37, J38, P, pm_T0, e + 1)) (d174 hw he e39) rfl
      refine cz2 q198_20 (μ1 := (I37, J38, P, pm_T0, e)) (d174 hw he e39) rfl ?_
      refine al0 c198_23 ?_
      refine r_gr g198_24 rfl rfl (hp _ _ _ rfl) ?_
      refine al0 c198_27 ?_
      refine r_gr g198_28 rfl rfl (hp _ _ _ rfl) ?_
      refine al0 c198_31 ?_
      refine r_gr g198_32 rfl rfl hw2 ?_
      refine il1 c198_35 ?_
      obtain ⟨⟨ov41, I42, J43⟩, e44, h⟩ := pm_bd_sp h
      dsimp only at h
      refine cz4 q198_36 (μ1 := (I42, J43, P, pm_T0, e)) (d143 hw (by first | rfl | assumption | decide) e44) rfl ?_
      refine al0 c198_39 ?_
      refine r_gr g198_40 rfl rfl (hp _ _ _ rfl) ?_
      refine al0 c198_43 ?_
      refine r_gr g198_44 rfl rfl hw2 ?_
      obtain ⟨⟨ov45, I46, J47⟩, e48, h⟩ := pm_bd_sp h
      dsimp only at h
      refine cz2 q198_47 (μ1 := (I46, J47, P, pm_T0, e)) (d150 hw (by first | rfl | assumption | decide) e48) rfl ?_
      refine il2 c198_50 ?_
      refine r_ifne (t := 64) c198_51 rfl (fun h49 => ?_) (fun h49 => ?_)
      · rw [if_neg h49] at h
        refine al0 c198_64 ?_
        refine r_gr g198_65 rfl rfl (hp _ _ _ rfl) ?_
        refine cv1 q198_68 (s152 (by first | rfl | assumption)) rfl ?_
        cases h
        exact r_ri c198_71 rt198 rfl rfl
      · rw [if_pos h49] at h
        refine al0 c198_54 ?_
        refine r_gr g198_55 rfl rfl (hp _ _ _ rfl) ?_
        refine cv1 q198_58 (s151 (by first | rfl | assumption)) rfl ?_
        refine r_go (t := 71) c198_61 rfl ?_
        cases h
        exact r_ri c198_71 rt198 rfl rfl
def v200 (x0 : Int32) (I : Nat → Nat → Int32) : Bool := (if x0.toInt < (1 : Int32).toInt then false else (if (9 : Int32).toInt < x0.toInt then false else (if (x0 &&& 1) = 1 then true else false)))
theorem d200 {X : (Nat → Int32) × Nat} {d : Nat} {I : Nat → Nat → Int32} {J : Nat → Nat → Int64} {P : Nat → Nat → Value} {e r k r2 k2 : Nat} {x0 : Int32} {q : Bool} (hw : pm_W P r k r2 k2)  (h : v200 x0 I = q) : pm_Fn X (d) 200 0 [.int x0] (I, J, P, pm_T0, e) (.inl (some (.int (pm_bi q)))) (I, J, P, pm_T0, e) := by
  obtain ⟨hp, hw1, hw2, hw3, hw4, hw5, hw6, hw7, hw8, hw9, hw10, hw11⟩ := id hw
  have hwa := hw5.1
  have hwb := hw6.1
  have hwc := hw7.1
  have hwd := hw8.1
  unfold v200 at h
  refine fn_s ml200 rfl rfl rfl ?_
  refine il0 c200_0 ?_
  refine r_ic c200_1 kI1 ?_
  refine r_iclt (t := 22) c200_2 rfl (fun h1 => ?_) (fun h1 => ?_)
  · rw [if_pos h1] at h
    refine r_ic c200_22 kI0 ?_
    cases h
    exact r_rz c200_23 rt200 (by decide) rfl rfl
  · rw [if_neg (Int.not_lt.mpr h1)] at h
    refine il0 c200_5 ?_
    refine r_bi c200_6 kB9 ?_
    refine r_icgt (t := 22) c200_8 rfl (fun h2 => ?_) (fun h2 => ?_)
    · rw [if_pos h2] at h
      refine r_ic c200_22 kI0 ?_
      cases h
      exact r_rz c200_23 rt200 (by decide) rfl rfl
    · rw [if_neg (Int.not_lt.mpr h2)] at h
      refine il0 c200_11 ?_
      refine r_ic c200_12 kI1 ?_
      refine r_iand c200_13 ?_
      refine r_ic c200_14 kI1 ?_
      refine r_icne (t := 22) c200_15 rfl (fun h3 => ?_) (fun h3 => ?_)
      · rw [if_neg h3] at h
        refine r_ic c200_22 kI0 ?_
        cases h
        exact r_rz c200_23 rt200 (by decide) rfl rfl
      · rw [if_pos h3] at h
        refine r_ic c200_18 kI1 ?_
        refine r_go (t := 23) c200_19 rfl ?_
        cases h
        exact r_rz c200_23 rt200 (by decide) rfl rfl
def f202_5  : Nat → Int32 → Int32 → Int64 → Int32 → (Nat → Nat → Int32) → (Nat → Nat → Int64) → Option (Int64 × (Nat → Nat → Int32) × (Nat → Nat → Int64))
  | 0, _, _, _, _, _, _ => none
  | fu + 1, y0, y1, y2, y4, I, J => (if y1.toInt < y4.toInt then some (y2, I, J) else pm_gd (!decide (y4.toInt64 = 0)) (f202_5 fu y0 y1 ((y2 * (((y0 - y4) + 1).toInt64)) / y4.toInt64) (y4 + 1) I J))
def f202 (x0 : Int32) (x1 : Int32) (I : Nat → Nat → Int32) (J : Nat → Nat → Int64) : Option (Int64 × (Nat → Nat → Int32) × (Nat → Nat → Int64)) := f202_5 pm_FU x0 x1 1 1 I J
theorem d202_5 {X : (Nat → Int32) × Nat} {d : Nat} {P : Nat → Nat → Value} {e r k r2 k2 : Nat}  (hw : pm_W P r k r2 k2)  : ∀ (fu : Nat) {y0 y1 y4 : Int32} {y2 : Int64} {I : Nat → Nat → Int32} {J : Nat → Nat → Int64} {q : Int64 × (Nat → Nat → Int32) × (Nat → Nat → Int64)} (h : f202_5 fu y0 y1 y2 y4 I J = some q), pm_Fx X (d) 202 5 [.int y0, .int y1, .long y2, pm_jk, .int y4] [] (I, J, P, pm_T0, e) (.inl (some (.long q.1))) (q.2.1, q.2.2, P, pm_T0, e) := by
  obtain ⟨hp, hw1, hw2, hw3, hw4, hw5, hw6, hw7, hw8, hw9, hw10, hw11⟩ := id hw
  have hwa := hw5.1
  have hwb := hw6.1
  have hwc := hw7.1
  have hwd := hw8.1
  intro fu
  induction fu with
  | zero => intro y0 y1 y4 y2 I J q h; cases h
  | succ fu ih =>
    intro y0 y1 y4 y2 I J q h
    rw [f202_5] at h
    refine il4 c202_5 ?_
    refine il1 c202_7 ?_
    refine r_icgt (t := 31) c202_8 rfl (fun h1 => ?_) (fun h1 => ?_)
    · rw [if_pos h1] at h
      refine ll2 c202_31 ?_
      cases h
      exact r_rl c202_32 rt202 rfl rfl
    · rw [if_neg (Int.not_lt.mpr h1)] at h
      refine ll2 c202_11 ?_
      refine il0 c202_12 ?_
      refine il4 c202_13 ?_
      refine r_isub c202_15 ?_
      refine r_ic c202_16 kI1 ?_
      refine r_iadd c202_17 ?_
      refine r_i2l c202_18 ?_
      refine r_lmul c202_19 ?_
      refine il4 c202_20 ?_
      refine r_i2l c202_22 ?_
      obtain ⟨gd2, h⟩ := pm_gd_sp h
      refine r_ldiv c202_23 (by simpa using gd2) ?_
      refine ls2 c202_24 rfl ?_
      refine ii4 c202_25 kI1 rfl ?_
      refine r_go (t := 5) c202_28 rfl ?_
      exact ih h
theorem d202 {X : (Nat → Int32) × Nat} {d : Nat} {I : Nat → Nat → Int32} {J : Nat → Nat → Int64} {P : Nat → Nat → Value} {e r k r2 k2 : Nat} {x0 : Int32} {x1 : Int32} {q : Int64 × (Nat → Nat → Int32) × (Nat → Nat → Int64)} (hw : pm_W P r k r2 k2)  (h : f202 x0 x1 I J = some q) : pm_Fn X (d) 202 0 [.int x0, .int x1] (I, J, P, pm_T0, e) (.inl (some (.long q.1))) (q.2.1, q.2.2, P, pm_T0, e) := by
  obtain ⟨hp, hw1, hw2, hw3, hw4, hw5, hw6, hw7, hw8, hw9, hw10, hw11⟩ := id hw
  have hwa := hw5.1
  have hwb := hw6.1
  have hwc := hw7.1
  have hwd := hw8.1
  unfold f202 at h
  refine fn_s ml202 rfl rfl rfl ?_
  refine r_lc c202_0 kL1 ?_
  refine ls2 c202_1 rfl ?_
  refine r_ic c202_2 kI1 ?_
  refine is4 c202_3 rfl ?_
  exact d202_5 hw pm_FU h
def f203_5  : Nat → Int32 → Int32 → Int64 → Int32 → (Nat → Nat → Int32) → (Nat → Nat → Int64) → Option (Int64 × (Nat → Nat → Int32) × (Nat → Nat → Int64))
  | 0, _, _, _, _, _, _ => none
  | fu + 1, y0, y1, y2, y4, I, J => (if y4.toInt < y1.toInt then f203_5 fu y0 y1 (y2 * y0.toInt64) (y4 + 1) I J else some (y2, I, J))
def f203 (x0 : Int32) (x1 : Int32) (I : Nat → Nat → Int32) (J : Nat → Nat → Int64) : Option (Int64 × (Nat → Nat → Int32) × (Nat → Nat → Int64)) := f203_5 pm_FU x0 x1 1 0 I J
theorem d203_5 {X : (Nat → Int32) × Nat} {d : Nat} {P : Nat → Nat → Value} {e r k r2 k2 : Nat}  (hw : pm_W P r k r2 k2)  : ∀ (fu : Nat) {y0 y1 y4 : Int32} {y2 : Int64} {I : Nat → Nat → Int32} {J : Nat → Nat → Int64} {q : Int64 × (Nat → Nat → Int32) × (Nat → Nat → Int64)} (h : f203_5 fu y0 y1 y2 y4 I J = some q), pm_Fx X (d) 203 5 [.int y0, .int y1, .long y2, pm_jk, .int y4] [] (I, J, P, pm_T0, e) (.inl (some (.long q.1))) (q.2.1, q.2.2, P, pm_T0, e) := by
  obtain ⟨hp, hw1, hw2, hw3, hw4, hw5, hw6, hw7, hw8, hw9, hw10, hw11⟩ := id hw
  have hwa := hw5.1
  have hwb := hw6.1
  have hwc := hw7.1
  have hwd := hw8.1
  intro fu
  induction fu with
  | zero => intro y0 y1 y4 y2 I J q h; cases h
  | succ fu ih =>
    intro y0 y1 y4 y2 I J q h
    rw [f203_5] at h
    refine il4 c203_5 ?_
    refine il1 c203_7 ?_
    refine r_icge (t := 22) c203_8 rfl (fun h1 => ?_) (fun h1 => ?_)
    · rw [if_neg (Int.not_lt.mpr h1)] at h
      refine ll2 c203_22 ?_
      cases h
      exact r_rl c203_23 rt203 rfl rfl
    · rw [if_pos h1] at h
      refine ll2 c203_11 ?_
      refine il0 c203_12 ?_
      refine r_i2l c203_13 ?_
      refine r_lmul c203_14 ?_
      refine ls2 c203_15 rfl ?_
      refine ii4 c203_16 kI1 rfl ?_
      refine r_go (t := 5) c203_19 rfl ?_
      exact ih h
theorem d203 {X : (Nat → Int32) × Nat} {d : Nat} {I : Nat → Nat → Int32} {J : Nat → Nat → Int64} {P : Nat → Nat → Value} {e r k r2 k2 : Nat} {x0 : Int32} {x1 : Int32} {q : Int64 × (Nat → Nat → Int32) × (Nat → Nat → Int64)} (hw : pm_W P r k r2 k2)  (h : f203 x0 x1 I J = some q) : pm_Fn X (d) 203 0 [.int x0, .int x1] (I, J, P, pm_T0, e) (.inl (some (.long q.1))) (q.2.1, q.2.2, P, pm_T0, e) := by
  obtain ⟨hp, hw1, hw2, hw3, hw4, hw5, hw6, hw7, hw8, hw9, hw10, hw11⟩ := id hw
  have hwa := hw5.1
  have hwb := hw6.1
  have hwc := hw7.1
  have hwd := hw8.1
  unfold f203 at h
  refine fn_s ml203 rfl rfl rfl ?_
  refine r_lc c203_0 kL1 ?_
  refine ls2 c203_1 rfl ?_
  refine r_ic c203_2 kI0 ?_
  refine is4 c203_3 rfl ?_
  exact d203_5 hw pm_FU h
def f201_9  : Nat → Int32 → Int32 → Int64 → Int32 → (Nat → Nat → Int32) → (Nat → Nat → Int64) → Option (Int64 × (Nat → Nat → Int32) × (Nat → Nat → Int64))
  | 0, _, _, _, _, _, _ => none
  | fu + 1, y0, y1, y2, y4, I, J => (if y0.toInt < y4.toInt then some (y2, I, J) else (f202 y0 y4 I J).bind (fun (ov2, I3, J4) => (f203 y1 y4 I3 J4).bind (fun (ov6, I7, J8) => (f203 (16 - y1) (y0 - y4) I7 J8).bind (fun (ov10, I11, J12) => f201_9 fu y0 y1 (y2 + ((ov2 * ov6) * ov10)) (y4 + 1) I11 J12))))
def f201 (x0 : Int32) (x1 : Int32) (I : Nat → Nat → Int32) (J : Nat → Nat → Int64) : Option (Int64 × (Nat → Nat → Int32) × (Nat → Nat → Int64)) := f201_9 pm_FU x0 x1 0 ((x0 / 2) + 1) I J
theorem d201_9 {X : (Nat → Int32) × Nat} {d : Nat} {P : Nat → Nat → Value} {e r k r2 k2 : Nat}  (hw : pm_W P r k r2 k2)  : ∀ (fu : Nat) {y0 y1 y4 : Int32} {y2 : Int64} {I : Nat → Nat → Int32} {J : Nat → Nat → Int64} {q : Int64 × (Nat → Nat → Int32) × (Nat → Nat → Int64)} (h : f201_9 fu y0 y1 y2 y4 I J = some q), pm_Fx X (d + 1) 201 9 [.int y0, .int y1, .long y2, pm_jk, .int y4] [] (I, J, P, pm_T0, e) (.inl (some (.long q.1))) (q.2.1, q.2.2, P, pm_T0, e) := by
  obtain ⟨hp, hw1, hw2, hw3, hw4, hw5, hw6, hw7, hw8, hw9, hw10, hw11⟩ := id hw
  have hwa := hw5.1
  have hwb := hw6.1
  have hwc := hw7.1
  have hwd := hw8.1
  intro fu
  induction fu with
  | zero => intro y0 y1 y4 y2 I J q h; cases h
  | succ fu ih =>
    intro y0 y1 y4 y2 I J q h
    rw [f201_9] at h
    refine il4 c201_9 ?_
    refine il0 c201_11 ?_
    refine r_icgt (t := 49) c201_12 rfl (fun h1 => ?_) (fun h1 => ?_)
    · rw [if_pos h1] at h
      refine ll2 c201_49 ?_
      cases h
      exact r_rl c201_50 rt201 rfl rfl
    · rw [if_neg (Int.not_lt.mpr h1)] at h
      refine ll2 c201_15 ?_
      refine il0 c201_16 ?_
      refine il4 c201_17 ?_
      obtain ⟨⟨ov2, I3, J4⟩, e5, h⟩ := pm_bd_sp h
      dsimp only at h
      refine cv2 q201_19 (v := .long ov2) (μ1 := (I3, J4, P, pm_T0, e)) (d202 hw e5) rfl ?_
      refine il1 c201_22 ?_
      refine il4 c201_23 ?_
      obtain ⟨⟨ov6, I7, J8⟩, e9, h⟩ := pm_bd_sp h
      dsimp only at h
      refine cv2 q201_25 (v := .long ov6) (μ1 := (I7, J8, P, pm_T0, e)) (d203 hw e9) rfl ?_
      refine r_lmul c201_28 ?_
      refine r_bi c201_29 kB16 ?_
      refine il1 c201_31 ?_
      refine r_isub c201_32 ?_
      refine il0 c201_33 ?_
      refine il4 c201_34 ?_
      refine r_isub c201_36 ?_
      obtain ⟨⟨ov10, I11, J12⟩, e13, h⟩ := pm_bd_sp h
      dsimp only at h
      refine cv2 q201_37 (v := .long ov10) (μ1 := (I11, J12, P, pm_T0, e)) (d203 hw e13) rfl ?_
      refine r_lmul c201_40 ?_
      refine r_ladd c201_41 ?_
      refine ls2 c201_42 rfl ?_
      refine ii4 c201_43 kI1 rfl ?_
      refine r_go (t := 9) c201_46 rfl ?_
      exact ih h
theorem d201 {X : (Nat → Int32) × Nat} {d : Nat} {I : Nat → Nat → Int32} {J : Nat → Nat → Int64} {P : Nat → Nat → Value} {e r k r2 k2 : Nat} {x0 : Int32} {x1 : Int32} {q : Int64 × (Nat → Nat → Int32) × (Nat → Nat → Int64)} (hw : pm_W P r k r2 k2)  (h : f201 x0 x1 I J = some q) : pm_Fn X (d + 1) 201 0 [.int x0, .int x1] (I, J, P, pm_T0, e) (.inl (some (.long q.1))) (q.2.1, q.2.2, P, pm_T0, e) := by
  obtain ⟨hp, hw1, hw2, hw3, hw4, hw5, hw6, hw7, hw8, hw9, hw10, hw11⟩ := id hw
  have hwa := hw5.1
  have hwb := hw6.1
  have hwc := hw7.1
  have hwd := hw8.1
  unfold f201 at h
  refine fn_s ml201 rfl rfl rfl ?_
  refine r_lc c201_0 kL0 ?_
  refine ls2 c201_1 rfl ?_
  refine il0 c201_2 ?_
  refine r_ic c201_3 kI2 ?_
  refine r_idiv c201_4 (by decide) ?_
  refine r_ic c201_5 kI1 ?_
  refine r_iadd c201_6 ?_
  refine is4 c201_7 rfl ?_
  exact d201_9 hw pm_FU h
def f199_58  : Nat → Int32 → Int32 → Int64 → Int32 → Int32 → (Nat → Nat → Int32) → (Nat → Nat → Int64) → Option ((Int64 ⊕ Nat) × (Nat → Nat → Int32) × (Nat → Nat → Int64))
  | 0, _, _, _, _, _, _, _ => none
  | fu + 1, y1, y3, y4, y6, y7, I, J => (if y7.toInt < (4 * y1).toInt then (if (lg_cmp (y4 &&& 1) 0) = 0 then f199_58 fu y1 y3 (y4 >>> ((1 : Int32).toInt64 &&& 63)) (y6 + 1) (y7 + 1) I J else (if y3 = 0 then some (.inl y4, I, J) else some (.inl (1 <<< (((4 * y1) - y6).toInt64 &&& 63)), I, J))) else (if y3 = 0 then some (.inl y4, I, J) else some (.inl (1 <<< (((4 * y1) - y6).toInt64 &&& 63)), I, J)))
def f199 (x1 : Int32) (x2 : Int32) (x3 : Int32) (I : Nat → Nat → Int32) (J : Nat → Nat → Int64) : Option ((Int64 ⊕ Nat) × (Nat → Nat → Int32) × (Nat → Nat → Int64)) := pm_xb (f174 (pm_bi (v200 x1 I)) I J) (fun ov1 I2 J3 => (if x2.toInt < 0 then pm_xb (f174 0 I2 J3) (fun ov7 I8 J9 => (if x3 = 0 then pm_xb (f174 1 I8 J9) (fun ov13 I14 J15 => (f201 x1 x2 I14 J15).bind (fun (ov18, I19, J20) => f199_58 pm_FU x1 x3 ov18 0 0 I19 J20)) else (if x3 = 1 then pm_xb (f174 1 I8 J9) (fun ov32 I33 J34 => (f201 x1 x2 I33 J34).bind (fun (ov37, I38, J39) => f199_58 pm_FU x1 x3 ov37 0 0 I38 J39)) else pm_xb (f174 0 I8 J9) (fun ov23 I24 J25 => (f201 x1 x2 I24 J25).bind (fun (ov28, I29, J30) => f199_58 pm_FU x1 x3 ov28 0 0 I29 J30))))) else (if (16 : Int32).toInt < x2.toInt then pm_xb (f174 0 I2 J3) (fun ov42 I43 J44 => (if x3 = 0 then pm_xb (f174 1 I43 J44) (fun ov48 I49 J50 => (f201 x1 x2 I49 J50).bind (fun (ov53, I54, J55) => f199_58 pm_FU x1 x3 ov53 0 0 I54 J55)) else (if x3 = 1 then pm_xb (f174 1 I43 J44) (fun ov67 I68 J69 => (f201 x1 x2 I68 J69).bind (fun (ov72, I73, J74) => f199_58 pm_FU x1 x3 ov72 0 0 I73 J74)) else pm_xb (f174 0 I43 J44) (fun ov58 I59 J60 => (f201 x1 x2 I59 J60).bind (fun (ov63, I64, J65) => f199_58 pm_FU x1 x3 ov63 0 0 I64 J65))))) else pm_xb (f174 1 I2 J3) (fun ov76 I77 J78 => (if x3 = 0 then pm_xb (f174 1 I77 J78) (fun ov82 I83 J84 => (f201 x1 x2 I83 J84).bind (fun (ov87, I88, J89) => f199_58 pm_FU x1 x3 ov87 0 0 I88 J89)) else (if x3 = 1 then pm_xb (f174 1 I77 J78) (fun ov101 I102 J103 => (f201 x1 x2 I102 J103).bind (fun (ov106, I107, J108) => f199_58 pm_FU x1 x3 ov106 0 0 I107 J108)) else pm_xb (f174 0 I77 J78) (fun ov92 I93 J94 => (f201 x1 x2 I93 J94).bind (fun (ov97, I98, J99) => f199_58 pm_FU x1 x3 ov97 0 0 I98 J99))))))))
theorem d199_58 {X : (Nat → Int32) × Nat} {d : Nat} {P : Nat → Nat → Value} {e r k r2 k2 : Nat}  (hw : pm_W P r k r2 k2) (he : e < 100000)  : ∀ (fu : Nat) {y1 y3 y6 y7 : Int32} {y4 : Int64} {I : Nat → Nat → Int32} {J : Nat → Nat → Int64} {q : (Int64 ⊕ Nat) × (Nat → Nat → Int32) × (Nat → Nat → Int64)} {z0 : Value} {z2 : Value} (h : f199_58 fu y1 y3 y4 y6 y7 I J = some q), pm_Fx X (d + 2) 199 58 [z0, .int y1, z2, .int y3, .long y4, pm_jk, .int y6, .int y7] [] (I, J, P, pm_T0, e) (pm_sJ q.1) (q.2.1, q.2.2, P, pm_T0, pm_sE q.1 e) := by
  obtain ⟨hp, hw1, hw2, hw3, hw4, hw5, hw6, hw7, hw8, hw9, hw10, hw11⟩ := id hw
  have hwa := hw5.1
  have hwb := hw6.1
  have hwc := hw7.1
  have hwd := hw8.1
  intro fu
  induction fu with
  | zero => intro y1 y3 y6 y7 y4 I J q z0 z2 h; cases h
  | succ fu ih =>
    intro y1 y3 y6 y7 y4 I J q z0 z2 h
    rw [f199_58] at h
    refine il7 c199_58 ?_
    refine r_ic c199_60 kI4 ?_
    refine il1 c199_61 ?_
    refine r_imul c199_62 ?_
    refine r_icge (t := 90) c199_63 rfl (fun h1 => ?_) (fun h1 => ?_)
    · rw [if_neg (Int.not_lt.mpr h1)] at h
      refine il3 c199_90 ?_
      refine r_ifne (t := 99) c199_91 rfl (fun h2 => ?_) (fun h2 => ?_)
      · rw [if_neg h2] at h
        refine r_lc c199_99 kL1 ?_
        refine r_ic c199_100 kI4 ?_
        refine il1 c199_101 ?_
        refine r_imul c199_102 ?_
        refine il6 c199_103 ?_
        refine r_isub c199_105 ?_
        refine r_lshl c199_106 ?_
        cases h
        exact r_rl c199_107 rt199 rfl rfl
      · rw [if_pos h2] at h
        refine ll4 c199_94 ?_
        refine r_go (t := 107) c199_96 rfl ?_
        cases h
        exact r_rl c199_107 rt199 rfl rfl
    · rw [if_pos h1] at h
      refine ll4 c199_66 ?_
      refine r_lc c199_68 kL1 ?_
      refine r_land c199_69 ?_
      refine r_lc c199_70 kL0 ?_
      refine r_lcmp c199_71 ?_
      refine r_ifne (t := 90) c199_72 rfl (fun h3 => ?_) (fun h3 => ?_)
      · rw [if_neg h3] at h
        refine il3 c199_90 ?_
        refine r_ifne (t := 99) c199_91 rfl (fun h4 => ?_) (fun h4 => ?_)
        · rw [if_neg h4] at h
          refine r_lc c199_99 kL1 ?_
          refine r_ic c199_100 kI4 ?_
          refine il1 c199_101 ?_
          refine r_imul c199_102 ?_
          refine il6 c199_103 ?_
          refine r_isub c199_105 ?_
          refine r_lshl c199_106 ?_
          cases h
          exact r_rl c199_107 rt199 rfl rfl
        · rw [if_pos h4] at h
          refine ll4 c199_94 ?_
          refine r_go (t := 107) c199_96 rfl ?_
          cases h
          exact r_rl c199_107 rt199 rfl rfl
      · rw [if_pos h3] at h
        refine ll4 c199_75 ?_
        refine r_ic c199_77 kI1 ?_
        refine r_lshr c199_78 ?_
        refine ls4 c199_79 rfl ?_
        refine ii6 c199_81 kI1 rfl ?_
        refine ii7 c199_84 kI1 rfl ?_
        refine r_go (t := 58) c199_87 rfl ?_
        exact ih h
theorem d199 {X : (Nat → Int32) × Nat} {d : Nat} {I : Nat → Nat → Int32} {J : Nat → Nat → Int64} {P : Nat → Nat → Value} {e r k r2 k2 : Nat} {x1 : Int32} {x2 : Int32} {x3 : Int32} {q : (Int64 ⊕ Nat) × (Nat → Nat → Int32) × (Nat → Nat → Int64)} (hw : pm_W P r k r2 k2) (he : e < 100000)  (h : f199 x1 x2 x3 I J = some q) : pm_Fn X (d + 2) 199 1 [.ref 0, .int x1, .int x2, .int x3] (I, J, P, pm_T0, e) (pm_sJ q.1) (q.2.1, q.2.2, P, pm_T0, pm_sE q.1 e) := by
  obtain ⟨hp, hw1, hw2, hw3, hw4, hw5, hw6, hw7, hw8, hw9, hw10, hw11⟩ := id hw
  have hwa := hw5.1
  have hwb := hw6.1
  have hwc := hw7.1
  have hwd := hw8.1
  unfold f199 at h
  refine fn_v rc199 (c := 11) (nf := 14) (by first | rfl | assumption) ml199 rfl rfl rfl rfl ?_
  refine al0 c199_0 ?_
  refine il1 c199_1 ?_
  refine cv1 q199_2 (d200 hw rfl) rfl ?_
  rcases pm_xb_sp h with ⟨ot5, I2, J3, e4, rfl⟩ | ⟨ov1, I2, J3, e4, h⟩
  · exact cx2 q199_5 hh199 (μ1 := (I2, J3, P, pm_T0, e + 1)) (d174 hw he e4) rfl
  refine cz2 q199_5 (μ1 := (I2, J3, P, pm_T0, e)) (d174 hw he e4) rfl ?_
  refine al0 c199_8 ?_
  refine il2 c199_9 ?_
  refine r_iflt (t := 23) c199_10 rfl (fun h6 => ?_) (fun h6 => ?_)
  · rw [if_pos h6] at h
    refine r_ic c199_23 kI0 ?_
    rcases pm_xb_sp h with ⟨ot11, I8, J9, e10, rfl⟩ | ⟨ov7, I8, J9, e10, h⟩
    · exact cx2 q199_24 hh199 (μ1 := (I8, J9, P, pm_T0, e + 1)) (d174 hw he e10) rfl
    refine cz2 q199_24 (μ1 := (I8, J9, P, pm_T0, e)) (d174 hw he e10) rfl ?_
    refine al0 c199_27 ?_
    refine il3 c199_28 ?_
    refine r_ifeq (t := 37) c199_29 rfl (fun h12 => ?_) (fun h12 => ?_)
    · rw [if_pos h12] at h
      refine r_ic c199_37 kI1 ?_
      refine r_go (t := 42) c199_38 rfl ?_
      rcases pm_xb_sp h with ⟨ot17, I14, J15, e16, rfl⟩ | ⟨ov13, I14, J15, e16, h⟩
      · exact cx2 q199_42 hh199 (μ1 := (I14, J15, P, pm_T0, e + 1)) (d174 hw he e16) rfl
      refine cz2 q199_42 (μ1 := (I14, J15, P, pm_T0, e)) (d174 hw he e16) rfl ?_
      refine il1 c199_45 ?_
      refine il2 c199_46 ?_
      obtain ⟨⟨ov18, I19, J20⟩, e21, h⟩ := pm_bd_sp h
      dsimp only at h
      refine cv2 q199_47 (v := .long ov18) (μ1 := (I19, J20, P, pm_T0, e)) (d201 hw e21) rfl ?_
      refine ls4 c199_50 rfl ?_
      refine r_ic c199_52 kI0 ?_
      refine is6 c199_53 rfl ?_
      refine r_ic c199_55 kI0 ?_
      refine is7 c199_56 rfl ?_
      exact d199_58 hw he pm_FU h
    · rw [if_neg h12] at h
      refine il3 c199_32 ?_
      refine r_ic c199_33 kI1 ?_
      refine r_icne (t := 41) c199_34 rfl (fun h22 => ?_) (fun h22 => ?_)
      · rw [if_neg h22] at h
        refine r_ic c199_41 kI0 ?_
        rcases pm_xb_sp h with ⟨ot27, I24, J25, e26, rfl⟩ | ⟨ov23, I24, J25, e26, h⟩
        · exact cx2 q199_42 hh199 (μ1 := (I24, J25, P, pm_T0, e + 1)) (d174 hw he e26) rfl
        refine cz2 q199_42 (μ1 := (I24, J25, P, pm_T0, e)) (d174 hw he e26) rfl ?_
        refine il1 c199_45 ?_
        refine il2 c199_46 ?_
        obtain ⟨⟨ov28, I29, J30⟩, e31, h⟩ := pm_bd_sp h
        dsimp only at h
        refine cv2 q199_47 (v := .long ov28) (μ1 := (I29, J30, P, pm_T0, e)) (d201 hw e31) rfl ?_
        refine ls4 c199_50 rfl ?_
        refine r_ic c199_52 kI0 ?_
        refine is6 c199_53 rfl ?_
        refine r_ic c199_55 kI0 ?_
        refine is7 c199_56 rfl ?_
        exact d199_58 hw he pm_FU h
      · rw [if_pos h22] at h
        refine r_ic c199_37 kI1 ?_
        refine r_go (t := 42) c199_38 rfl ?_
        rcases pm_xb_sp h with ⟨ot36, I33, J34, e35, rfl⟩ | ⟨ov32, I33, J34, e35, h⟩
        · exact cx2 q199_42 hh199 (μ1 := (I33, J34, P, pm_T0, e + 1)) (d174 hw he e35) rfl
        refine cz2 q199_42 (μ1 := (I33, J34, P, pm_T0, e)) (d174 hw he e35) rfl ?_
        refine il1 c199_45 ?_
        refine il2 c199_46 ?_
        obtain ⟨⟨ov37, I38, J39⟩, e40, h⟩ := pm_bd_sp h
        dsimp only at h
        refine cv2 q199_47 (v := .long ov37) (μ1 := (I38, J39, P, pm_T0, e)) (d201 hw e40) rfl ?_
        refine ls4 c199_50 rfl ?_
        refine r_ic c199_52 kI0 ?_
        refine is6 c199_53 rfl ?_
        refine r_ic c199_55 kI0 ?_
        refine is7 c199_56 rfl ?_
        exact d199_58 hw he pm_FU h
  · rw [if_neg (Int.not_lt.mpr h6)] at h
    refine il2 c199_13 ?_
    refine r_bi c199_14 kB16 ?_
    refine r_icgt (t := 23) c199_16 rfl (fun h41 => ?_) (fun h41 => ?_)
    · rw [if_pos h41] at h
      refine r_ic c199_23 kI0 ?_
      rcases pm_xb_sp h with ⟨ot46, I43, J44, e45, rfl⟩ | ⟨ov42, I43, J44, e45, h⟩
      · exact cx2 q199_24 hh199 (μ1 := (I43, J44, P, pm_T0, e + 1)) (d174 hw he e45) rfl
      refine cz2 q199_24 (μ1 := (I43, J44, P, pm_T0, e)) (d174 hw he e45) rfl ?_
      refine al0 c199_27 ?_
      refine il3 c199_28 ?_
      refine r_ifeq (t := 37) c199_29 rfl (fun h47 => ?_) (fun h47 => ?_)
      · rw [if_pos h47] at h
        refine r_ic c199_37 kI1 ?_
        refine r_go (t := 42) c199_38 rfl ?_
        rcases pm_xb_sp h with ⟨ot52, I49, J50, e51, rfl⟩ | ⟨ov48, I49, J50, e51, h⟩
        · exact cx2 q199_42 hh199 (μ1 := (I49, J50, P, pm_T0, e + 1)) (d174 hw he e51) rfl
        refine cz2 q199_42 (μ1 := (I49, J50, P, pm_T0, e)) (d174 hw he e51) rfl ?_
        refine il1 c199_45 ?_
        refine il2 c199_46 ?_
        obtain ⟨⟨ov53, I54, J55⟩, e56, h⟩ := pm_bd_sp h
        dsimp only at h
        refine cv2 q199_47 (v := .long ov53) (μ1 := (I54, J55, P, pm_T0, e)) (d201 hw e56) rfl ?_
        refine ls4 c199_50 rfl ?_
        refine r_ic c199_52 kI0 ?_
        refine is6 c199_53 rfl ?_
        refine r_ic c199_55 kI0 ?_
        refine is7 c199_56 rfl ?_
        exact d199_58 hw he pm_FU h
      · rw [if_neg h47] at h
        refine il3 c199_32 ?_
        refine r_ic c199_33 kI1 ?_
        refine r_icne (t := 41) c199_34 rfl (fun h57 => ?_) (fun h57 => ?_)
        · rw [if_neg h57] at h
          refine r_ic c199_41 kI0 ?_
          rcases pm_xb_sp h with ⟨ot62, I59, J60, e61, rfl⟩ | ⟨ov58, I59, J60, e61, h⟩
          · exact cx2 q199_42 hh199 (μ1 := (I59, J60, P, pm_T0, e + 1)) (d174 hw he e61) rfl
          refine cz2 q199_42 (μ1 := (I59, J60, P, pm_T0, e)) (d174 hw he e61) rfl ?_
          refine il1 c199_45 ?_
          refine il2 c199_46 ?_
          obtain ⟨⟨ov63, I64, J65⟩, e66, h⟩ := pm_bd_sp h
          dsimp only at h
          refine cv2 q199_47 (v := .long ov63) (μ1 := (I64, J65, P, pm_T0, e)) (d201 hw e66) rfl ?_
          refine ls4 c199_50 rfl ?_
          refine r_ic c199_52 kI0 ?_
          refine is6 c199_53 rfl ?_
          refine r_ic c199_55 kI0 ?_
          refine is7 c199_56 rfl ?_
          exact d199_58 hw he pm_FU h
        · rw [if_pos h57] at h
          refine r_ic c199_37 kI1 ?_
          refine r_go (t := 42) c199_38 rfl ?_
          rcases pm_xb_sp h with ⟨ot71, I68, J69, e70, rfl⟩ | ⟨ov67, I68, J69, e70, h⟩
          · exact cx2 q199_42 hh199 (μ1 := (I68, J69, P, pm_T0, e + 1)) (d174 hw he e70) rfl
          refine cz2 q199_42 (μ1 := (I68, J69, P, pm_T0, e)) (d174 hw he e70) rfl ?_
          refine il1 c199_45 ?_
          refine il2 c199_46 ?_
          obtain ⟨⟨ov72, I73, J74⟩, e75, h⟩ := pm_bd_sp h
          dsimp only at h
          refine cv2 q199_47 (v := .long ov72) (μ1 := (I73, J74, P, pm_T0, e)) (d201 hw e75) rfl ?_
          refine ls4 c199_50 rfl ?_
          refine r_ic c199_52 kI0 ?_
          refine is6 c199_53 rfl ?_
          refine r_ic c199_55 kI0 ?_
          refine is7 c199_56 rfl ?_
          exact d199_58 hw he pm_FU h
    · rw [if_neg (Int.not_lt.mpr h41)] at h
      refine r_ic c199_19 kI1 ?_
      refine r_go (t := 24) c199_20 rfl ?_
      rcases pm_xb_sp h with ⟨ot80, I77, J78, e79, rfl⟩ | ⟨ov76, I77, J78, e79, h⟩
      · exact cx2 q199_24 hh199 (μ1 := (I77, J78, P, pm_T0, e + 1)) (d174 hw he e79) rfl
      refine cz2 q199_24 (μ1 := (I77, J78, P, pm_T0, e)) (d174 hw he e79) rfl ?_
      refine al0 c199_27 ?_
      refine il3 c199_28 ?_
      refine r_ifeq (t := 37) c199_29 rfl (fun h81 => ?_) (fun h81 => ?_)
      · rw [if_pos h81] at h
        refine r_ic c199_37 kI1 ?_
        refine r_go (t := 42) c199_38 rfl ?_
        rcases pm_xb_sp h with ⟨ot86, I83, J84, e85, rfl⟩ | ⟨ov82, I83, J84, e85, h⟩
        · exact cx2 q199_42 hh199 (μ1 := (I83, J84, P, pm_T0, e + 1)) (d174 hw he e85) rfl
        refine cz2 q199_42 (μ1 := (I83, J84, P, pm_T0, e)) (d174 hw he e85) rfl ?_
        refine il1 c199_45 ?_
        refine il2 c199_46 ?_
        obtain ⟨⟨ov87, I88, J89⟩, e90, h⟩ := pm_bd_sp h
        dsimp only at h
        refine cv2 q199_47 (v := .long ov87) (μ1 := (I88, J89, P, pm_T0, e)) (d201 hw e90) rfl ?_
        refine ls4 c199_50 rfl ?_
        refine r_ic c199_52 kI0 ?_
        refine is6 c199_53 rfl ?_
        refine r_ic c199_55 kI0 ?_
        refine is7 c199_56 rfl ?_
        exact d199_58 hw he pm_FU h
      · rw [if_neg h81] at h
        refine il3 c199_32 ?_
        refine r_ic c199_33 kI1 ?_
        refine r_icne (t := 41) c199_34 rfl (fun h91 => ?_) (fun h91 => ?_)
        · rw [if_neg h91] at h
          refine r_ic c199_41 kI0 ?_
          rcases pm_xb_sp h with ⟨ot96, I93, J94, e95, rfl⟩ | ⟨ov92, I93, J94, e95, h⟩
          · exact cx2 q199_42 hh199 (μ1 := (I93, J94, P, pm_T0, e + 1)) (d174 hw he e95) rfl
          refine cz2 q199_42 (μ1 := (I93, J94, P, pm_T0, e)) (d174 hw he e95) rfl ?_
          refine il1 c199_45 ?_
          refine il2 c199_46 ?_
          obtain ⟨⟨ov97, I98, J99⟩, e100, h⟩ := pm_bd_sp h
          dsimp only at h
          refine cv2 q199_47 (v := .long ov97) (μ1 := (I98, J99, P, pm_T0, e)) (d201 hw e100) rfl ?_
          refine ls4 c199_50 rfl ?_
          refine r_ic c199_52 kI0 ?_
          refine is6 c199_53 rfl ?_
          refine r_ic c199_55 kI0 ?_
          refine is7 c199_56 rfl ?_
          exact d199_58 hw he pm_FU h
        · rw [if_pos h91] at h
          refine r_ic c199_37 kI1 ?_
          refine r_go (t := 42) c199_38 rfl ?_
          rcases pm_xb_sp h with ⟨ot105, I102, J103, e104, rfl⟩ | ⟨ov101, I102, J103, e104, h⟩
          · exact cx2 q199_42 hh199 (μ1 := (I102, J103, P, pm_T0, e + 1)) (d174 hw he e104) rfl
          refine cz2 q199_42 (μ1 := (I102, J103, P, pm_T0, e)) (d174 hw he e104) rfl ?_
          refine il1 c199_45 ?_
          refine il2 c199_46 ?_
          obtain ⟨⟨ov106, I107, J108⟩, e109, h⟩ := pm_bd_sp h
          dsimp only at h
          refine cv2 q199_47 (v := .long ov106) (μ1 := (I107, J108, P, pm_T0, e)) (d201 hw e109) rfl ?_
          refine ls4 c199_50 rfl ?_
          refine r_ic c199_52 kI0 ?_
          refine is6 c199_53 rfl ?_
          refine r_ic c199_55 kI0 ?_
          refine is7 c199_56 rfl ?_
          exact d199_58 hw he pm_FU h
def f204_40  : Nat → Int32 → Int32 → Int32 → (Nat → Nat → Int32) → (Nat → Nat → Int64) → Option ((Int32 ⊕ Nat) × (Nat → Nat → Int32) × (Nat → Nat → Int64))
  | 0, _, _, _, _, _ => none
  | fu + 1, y1, y2, y3, I, J => (if (9 : Int32).toInt < y3.toInt then some (.inl (-1), I, J) else (f201 y3 y1 I J).bind (fun (ov2, I3, J4) => (if (lg_cmp (ov2 * 16) (y2.toInt64 <<< ((4 * y3).toInt64 &&& 63))).toInt < 0 then f204_40 fu y1 y2 (y3 + 2) I3 J4 else some (.inl y3, I3, J4))))
def f204 (x1 : Int32) (x2 : Int32) (I : Nat → Nat → Int32) (J : Nat → Nat → Int64) : Option ((Int32 ⊕ Nat) × (Nat → Nat → Int32) × (Nat → Nat → Int64)) := (if x1.toInt < 0 then pm_xb (f174 0 I J) (fun ov2 I3 J4 => (if x2.toInt < 0 then pm_xb (f174 0 I3 J4) (fun ov8 I9 J10 => f204_40 pm_FU x1 x2 1 I9 J10) else (if (16 : Int32).toInt < x2.toInt then pm_xb (f174 0 I3 J4) (fun ov14 I15 J16 => f204_40 pm_FU x1 x2 1 I15 J16) else pm_xb (f174 1 I3 J4) (fun ov19 I20 J21 => f204_40 pm_FU x1 x2 1 I20 J21)))) else (if (16 : Int32).toInt < x1.toInt then pm_xb (f174 0 I J) (fun ov25 I26 J27 => (if x2.toInt < 0 then pm_xb (f174 0 I26 J27) (fun ov31 I32 J33 => f204_40 pm_FU x1 x2 1 I32 J33) else (if (16 : Int32).toInt < x2.toInt then pm_xb (f174 0 I26 J27) (fun ov37 I38 J39 => f204_40 pm_FU x1 x2 1 I38 J39) else pm_xb (f174 1 I26 J27) (fun ov42 I43 J44 => f204_40 pm_FU x1 x2 1 I43 J44)))) else pm_xb (f174 1 I J) (fun ov47 I48 J49 => (if x2.toInt < 0 then pm_xb (f174 0 I48 J49) (fun ov53 I54 J55 => f204_40 pm_FU x1 x2 1 I54 J55) else (if (16 : Int32).toInt < x2.toInt then pm_xb (f174 0 I48 J49) (fun ov59 I60 J61 => f204_40 pm_FU x1 x2 1 I60 J61) else pm_xb (f174 1 I48 J49) (fun ov64 I65 J66 => f204_40 pm_FU x1 x2 1 I65 J66))))))
theorem d204_40 {X : (Nat → Int32) × Nat} {d : Nat} {P : Nat → Nat → Value} {e r k r2 k2 : Nat}  (hw : pm_W P r k r2 k2) (he : e < 100000)  : ∀ (fu : Nat) {y1 y2 y3 : Int32} {I : Nat → Nat → Int32} {J : Nat → Nat → Int64} {q : (Int32 ⊕ Nat) × (Nat → Nat → Int32) × (Nat → Nat → Int64)} {z0 : Value} (h : f204_40 fu y1 y2 y3 I J = some q), pm_Fx X (d + 2) 204 40 [z0, .int y1, .int y2, .int y3] [] (I, J, P, pm_T0, e) (pm_sI q.1) (q.2.1, q.2.2, P, pm_T0, pm_sE q.1 e) := by
  obtain ⟨hp, hw1, hw2, hw3, hw4, hw5, hw6, hw7, hw8, hw9, hw10, hw11⟩ := id hw
  have hwa := hw5.1
  have hwb := hw6.1
  have hwc := hw7.1
  have hwd := hw8.1
  intro fu
  induction fu with
  | zero => intro y1 y2 y3 I J q z0 h; cases h
  | succ fu ih =>
    intro y1 y2 y3 I J q z0 h
    rw [f204_40] at h
    refine il3 c204_40 ?_
    refine r_bi c204_41 kB9 ?_
    refine r_icgt (t := 73) c204_43 rfl (fun h1 => ?_) (fun h1 => ?_)
    · rw [if_pos h1] at h
      refine r_ic c204_73 kIm1 ?_
      cases h
      exact r_ri c204_74 rt204 rfl rfl
    · rw [if_neg (Int.not_lt.mpr h1)] at h
      refine il3 c204_46 ?_
      refine il1 c204_47 ?_
      obtain ⟨⟨ov2, I3, J4⟩, e5, h⟩ := pm_bd_sp h
      dsimp only at h
      refine cv2 q204_48 (v := .long ov2) (μ1 := (I3, J4, P, pm_T0, e)) (d201 hw e5) rfl ?_
      refine r_kl v204_51 ?_
      refine r_lmul c204_54 ?_
      refine il2 c204_55 ?_
      refine r_i2l c204_56 ?_
      refine r_ic c204_57 kI4 ?_
      refine il3 c204_58 ?_
      refine r_imul c204_59 ?_
      refine r_lshl c204_60 ?_
      refine r_lcmp c204_61 ?_
      refine r_iflt (t := 67) c204_62 rfl (fun h6 => ?_) (fun h6 => ?_)
      · rw [if_pos h6] at h
        refine ii3 c204_67 kI2 rfl ?_
        refine r_go (t := 40) c204_70 rfl ?_
        exact ih h
      · rw [if_neg (Int.not_lt.mpr h6)] at h
        refine il3 c204_65 ?_
        cases h
        exact r_ri c204_66 rt204 rfl rfl
theorem d204 {X : (Nat → Int32) × Nat} {d : Nat} {I : Nat → Nat → Int32} {J : Nat → Nat → Int64} {P : Nat → Nat → Value} {e r k r2 k2 : Nat} {x1 : Int32} {x2 : Int32} {q : (Int32 ⊕ Nat) × (Nat → Nat → Int32) × (Nat → Nat → Int64)} (hw : pm_W P r k r2 k2) (he : e < 100000)  (h : f204 x1 x2 I J = some q) : pm_Fn X (d + 2) 204 1 [.ref 0, .int x1, .int x2] (I, J, P, pm_T0, e) (pm_sI q.1) (q.2.1, q.2.2, P, pm_T0, pm_sE q.1 e) := by
  obtain ⟨hp, hw1, hw2, hw3, hw4, hw5, hw6, hw7, hw8, hw9, hw10, hw11⟩ := id hw
  have hwa := hw5.1
  have hwb := hw6.1
  have hwc := hw7.1
  have hwd := hw8.1
  unfold f204 at h
  refine fn_v rc204 (c := 11) (nf := 14) (by first | rfl | assumption) ml204 rfl rfl rfl rfl ?_
  refine al0 c204_0 ?_
  refine il1 c204_1 ?_
  refine r_iflt (t := 15) c204_2 rfl (fun h1 => ?_) (fun h1 => ?_)
  · rw [if_pos h1] at h
    refine r_ic c204_15 kI0 ?_
    rcases pm_xb_sp h with ⟨ot6, I3, J4, e5, rfl⟩ | ⟨ov2, I3, J4, e5, h⟩
    · exact cx2 q204_16 hh204 (μ1 := (I3, J4, P, pm_T0, e + 1)) (d174 hw he e5) rfl
    refine cz2 q204_16 (μ1 := (I3, J4, P, pm_T0, e)) (d174 hw he e5) rfl ?_
    refine al0 c204_19 ?_
    refine il2 c204_20 ?_
    refine r_iflt (t := 34) c204_21 rfl (fun h7 => ?_) (fun h7 => ?_)
    · rw [if_pos h7] at h
      refine r_ic c204_34 kI0 ?_
      rcases pm_xb_sp h with ⟨ot12, I9, J10, e11, rfl⟩ | ⟨ov8, I9, J10, e11, h⟩
      · exact cx2 q204_35 hh204 (μ1 := (I9, J10, P, pm_T0, e + 1)) (d174 hw he e11) rfl
      refine cz2 q204_35 (μ1 := (I9, J10, P, pm_T0, e)) (d174 hw he e11) rfl ?_
      refine r_ic c204_38 kI1 ?_
      refine is3 c204_39 rfl ?_
      exact d204_40 hw he pm_FU h
    · rw [if_neg (Int.not_lt.mpr h7)] at h
      refine il2 c204_24 ?_
      refine r_bi c204_25 kB16 ?_
      refine r_icgt (t := 34) c204_27 rfl (fun h13 => ?_) (fun h13 => ?_)
      · rw [if_pos h13] at h
        refine r_ic c204_34 kI0 ?_
        rcases pm_xb_sp h with ⟨ot18, I15, J16, e17, rfl⟩ | ⟨ov14, I15, J16, e17, h⟩
        · exact cx2 q204_35 hh204 (μ1 := (I15, J16, P, pm_T0, e + 1)) (d174 hw he e17) rfl
        refine cz2 q204_35 (μ1 := (I15, J16, P, pm_T0, e)) (d174 hw he e17) rfl ?_
        refine r_ic c204_38 kI1 ?_
        refine is3 c204_39 rfl ?_
        exact d204_40 hw he pm_FU h
      · rw [if_neg (Int.not_lt.mpr h13)] at h
        refine r_ic c204_30 kI1 ?_
        refine r_go (t := 35) c204_31 rfl ?_
        rcases pm_xb_sp h with ⟨ot23, I20, J21, e22, rfl⟩ | ⟨ov19, I20, J21, e22, h⟩
        · exact cx2 q204_35 hh204 (μ1 := (I20, J21, P, pm_T0, e + 1)) (d174 hw he e22) rfl
        refine cz2 q204_35 (μ1 := (I20, J21, P, pm_T0, e)) (d174 hw he e22) rfl ?_
        refine r_ic c204_38 kI1 ?_
        refine is3 c204_39 rfl ?_
        exact d204_40 hw he pm_FU h
  · rw [if_neg (Int.not_lt.mpr h1)] at h
    refine il1 c204_5 ?_
    refine r_bi c204_6 kB16 ?_
    refine r_icgt (t := 15) c204_8 rfl (fun h24 => ?_) (fun h24 => ?_)
    · rw [if_pos h24] at h
      refine r_ic c204_15 kI0 ?_
      rcases pm_xb_sp h with ⟨ot29, I26, J27, e28, rfl⟩ | ⟨ov25, I26, J27, e28, h⟩
      · exact cx2 q204_16 hh204 (μ1 := (I26, J27, P, pm_T0, e + 1)) (d174 hw he e28) rfl
      refine cz2 q204_16 (μ1 := (I26, J27, P, pm_T0, e)) (d174 hw he e28) rfl ?_
      refine al0 c204_19 ?_
      refine il2 c204_20 ?_
      refine r_iflt (t := 34) c204_21 rfl (fun h30 => ?_) (fun h30 => ?_)
      · rw [if_pos h30] at h
        refine r_ic c204_34 kI0 ?_
        rcases pm_xb_sp h with ⟨ot35, I32, J33, e34, rfl⟩ | ⟨ov31, I32, J33, e34, h⟩
        · exact cx2 q204_35 hh204 (μ1 := (I32, J33, P, pm_T0, e + 1)) (d174 hw he e34) rfl
        refine cz2 q204_35 (μ1 := (I32, J33, P, pm_T0, e)) (d174 hw he e34) rfl ?_
        refine r_ic c204_38 kI1 ?_
        refine is3 c204_39 rfl ?_
        exact d204_40 hw he pm_FU h
      · rw [if_neg (Int.not_lt.mpr h30)] at h
        refine il2 c204_24 ?_
        refine r_bi c204_25 kB16 ?_
        refine r_icgt (t := 34) c204_27 rfl (fun h36 => ?_) (fun h36 => ?_)
        · rw [if_pos h36] at h
          refine r_ic c204_34 kI0 ?_
          rcases pm_xb_sp h with ⟨ot41, I38, J39, e40, rfl⟩ | ⟨ov37, I38, J39, e40, h⟩
          · exact cx2 q204_35 hh204 (μ1 := (I38, J39, P, pm_T0, e + 1)) (d174 hw he e40) rfl
          refine cz2 q204_35 (μ1 := (I38, J39, P, pm_T0, e)) (d174 hw he e40) rfl ?_
          refine r_ic c204_38 kI1 ?_
          refine is3 c204_39 rfl ?_
          exact d204_40 hw he pm_FU h
        · rw [if_neg (Int.not_lt.mpr h36)] at h
          refine r_ic c204_30 kI1 ?_
          refine r_go (t := 35) c204_31 rfl ?_
          rcases pm_xb_sp h with ⟨ot46, I43, J44, e45, rfl⟩ | ⟨ov42, I43, J44, e45, h⟩
          · exact cx2 q204_35 hh204 (μ1 := (I43, J44, P, pm_T0, e + 1)) (d174 hw he e45) rfl
          refine cz2 q204_35 (μ1 := (I43, J44, P, pm_T0, e)) (d174 hw he e45) rfl ?_
          refine r_ic c204_38 kI1 ?_
          refine is3 c204_39 rfl ?_
          exact d204_40 hw he pm_FU h
    · rw [if_neg (Int.not_lt.mpr h24)] at h
      refine r_ic c204_11 kI1 ?_
      refine r_go (t := 16) c204_12 rfl ?_
      rcases pm_xb_sp h with ⟨ot51, I48, J49, e50, rfl⟩ | ⟨ov47, I48, J49, e50, h⟩
      · exact cx2 q204_16 hh204 (μ1 := (I48, J49, P, pm_T0, e + 1)) (d174 hw he e50) rfl
      refine cz2 q204_16 (μ1 := (I48, J49, P, pm_T0, e)) (d174 hw he e50) rfl ?_
      refine al0 c204_19 ?_
      refine il2 c204_20 ?_
      refine r_iflt (t := 34) c204_21 rfl (fun h52 => ?_) (fun h52 => ?_)
      · rw [if_pos h52] at h
        refine r_ic c204_34 kI0 ?_
        rcases pm_xb_sp h with ⟨ot57, I54, J55, e56, rfl⟩ | ⟨ov53, I54, J55, e56, h⟩
        · exact cx2 q204_35 hh204 (μ1 := (I54, J55, P, pm_T0, e + 1)) (d174 hw he e56) rfl
        refine cz2 q204_35 (μ1 := (I54, J55, P, pm_T0, e)) (d174 hw he e56) rfl ?_
        refine r_ic c204_38 kI1 ?_
        refine is3 c204_39 rfl ?_
        exact d204_40 hw he pm_FU h
      · rw [if_neg (Int.not_lt.mpr h52)] at h
        refine il2 c204_24 ?_
        refine r_bi c204_25 kB16 ?_
        refine r_icgt (t := 34) c204_27 rfl (fun h58 => ?_) (fun h58 => ?_)
        · rw [if_pos h58] at h
          refine r_ic c204_34 kI0 ?_
          rcases pm_xb_sp h with ⟨ot63, I60, J61, e62, rfl⟩ | ⟨ov59, I60, J61, e62, h⟩
          · exact cx2 q204_35 hh204 (μ1 := (I60, J61, P, pm_T0, e + 1)) (d174 hw he e62) rfl
          refine cz2 q204_35 (μ1 := (I60, J61, P, pm_T0, e)) (d174 hw he e62) rfl ?_
          refine r_ic c204_38 kI1 ?_
          refine is3 c204_39 rfl ?_
          exact d204_40 hw he pm_FU h
        · rw [if_neg (Int.not_lt.mpr h58)] at h
          refine r_ic c204_30 kI1 ?_
          refine r_go (t := 35) c204_31 rfl ?_
          rcases pm_xb_sp h with ⟨ot68, I65, J66, e67, rfl⟩ | ⟨ov64, I65, J66, e67, h⟩
          · exact cx2 q204_35 hh204 (μ1 := (I65, J66, P, pm_T0, e + 1)) (d174 hw he e67) rfl
          refine cz2 q204_35 (μ1 := (I65, J66, P, pm_T0, e)) (d174 hw he e67) rfl ?_
          refine r_ic c204_38 kI1 ?_
          refine is3 c204_39 rfl ?_
          exact d204_40 hw he pm_FU h
def f205_65  : Nat → Int32 → Int32 → Int32 → Int32 → (Nat → Nat → Int32) → (Nat → Nat → Int64) → Option ((Int32 ⊕ Nat) × (Nat → Nat → Int32) × (Nat → Nat → Int64))
  | 0, _, _, _, _, _, _ => none
  | fu + 1, y2, y3, y4, y5, I, J => (if (600 : Int32).toInt < y5.toInt then some (.inl (-1), I, J) else (if 0 < y4.toInt then (if ((y4 * y3) / 1000).toInt < y2.toInt then f205_65 fu y2 y3 ((y4 + ((y4 * y3) / 1000)) - y2) (y5 + 1) I J else some (.inl (-1), I, J)) else some (.inl y5, I, J)))
def f205 (x1 : Int32) (x2 : Int32) (x3 : Int32) (I : Nat → Nat → Int32) (J : Nat → Nat → Int64) : Option ((Int32 ⊕ Nat) × (Nat → Nat → Int32) × (Nat → Nat → Int64)) := (if x1.toInt < 0 then pm_xb (f174 0 I J) (fun ov2 I3 J4 => (if x2.toInt < 0 then pm_xb (f174 0 I3 J4) (fun ov8 I9 J10 => (if x3.toInt < 0 then pm_xb (f174 0 I9 J10) (fun ov14 I15 J16 => f205_65 pm_FU x2 x3 x1 0 I15 J16) else (if (100 : Int32).toInt < x3.toInt then pm_xb (f174 0 I9 J10) (fun ov20 I21 J22 => f205_65 pm_FU x2 x3 x1 0 I21 J22) else pm_xb (f174 1 I9 J10) (fun ov25 I26 J27 => f205_65 pm_FU x2 x3 x1 0 I26 J27)))) else (if (999 : Int32).toInt < x2.toInt then pm_xb (f174 0 I3 J4) (fun ov31 I32 J33 => (if x3.toInt < 0 then pm_xb (f174 0 I32 J33) (fun ov37 I38 J39 => f205_65 pm_FU x2 x3 x1 0 I38 J39) else (if (100 : Int32).toInt < x3.toInt then pm_xb (f174 0 I32 J33) (fun ov43 I44 J45 => f205_65 pm_FU x2 x3 x1 0 I44 J45) else pm_xb (f174 1 I32 J33) (fun ov48 I49 J50 => f205_65 pm_FU x2 x3 x1 0 I49 J50)))) else pm_xb (f174 1 I3 J4) (fun ov53 I54 J55 => (if x3.toInt < 0 then pm_xb (f174 0 I54 J55) (fun ov59 I60 J61 => f205_65 pm_FU x2 x3 x1 0 I60 J61) else (if (100 : Int32).toInt < x3.toInt then pm_xb (f174 0 I54 J55) (fun ov65 I66 J67 => f205_65 pm_FU x2 x3 x1 0 I66 J67) else pm_xb (f174 1 I54 J55) (fun ov70 I71 J72 => f205_65 pm_FU x2 x3 x1 0 I71 J72))))))) else (if (9999 : Int32).toInt < x1.toInt then pm_xb (f174 0 I J) (fun ov76 I77 J78 => (if x2.toInt < 0 then pm_xb (f174 0 I77 J78) (fun ov82 I83 J84 => (if x3.toInt < 0 then pm_xb (f174 0 I83 J84) (fun ov88 I89 J90 => f205_65 pm_FU x2 x3 x1 0 I89 J90) else (if (100 : Int32).toInt < x3.toInt then pm_xb (f174 0 I83 J84) (fun ov94 I95 J96 => f205_65 pm_FU x2 x3 x1 0 I95 J96) else pm_xb (f174 1 I83 J84) (fun ov99 I100 J101 => f205_65 pm_FU x2 x3 x1 0 I100 J101)))) else (if (999 : Int32).toInt < x2.toInt then pm_xb (f174 0 I77 J78) (fun ov105 I106 J107 => (if x3.toInt < 0 then pm_xb (f174 0 I106 J107) (fun ov111 I112 J113 => f205_65 pm_FU x2 x3 x1 0 I112 J113) else (if (100 : Int32).toInt < x3.toInt then pm_xb (f174 0 I106 J107) (fun ov117 I118 J119 => f205_65 pm_FU x2 x3 x1 0 I118 J119) else pm_xb (f174 1 I106 J107) (fun ov122 I123 J124 => f205_65 pm_FU x2 x3 x1 0 I123 J124)))) else pm_xb (f174 1 I77 J78) (fun ov127 I128 J129 => (if x3.toInt < 0 then pm_xb (f174 0 I128 J129) (fun ov133 I134 J135 => f205_65 pm_FU x2 x3 x1 0 I134 J135) else (if (100 : Int32).toInt < x3.toInt then pm_xb (f174 0 I128 J129) (fun ov139 I140 J141 => f205_65 pm_FU x2 x3 x1 0 I140 J141) else pm_xb (f174 1 I128 J129) (fun ov144 I145 J146 => f205_65 pm_FU x2 x3 x1 0 I145 J146))))))) else pm_xb (f174 1 I J) (fun ov149 I150 J151 => (if x2.toInt < 0 then pm_xb (f174 0 I150 J151) (fun ov155 I156 J157 => (if x3.toInt < 0 then pm_xb (f174 0 I156 J157) (fun ov161 I162 J163 => f205_65 pm_FU x2 x3 x1 0 I162 J163) else (if (100 : Int32).toInt < x3.toInt then pm_xb (f174 0 I156 J157) (fun ov167 I168 J169 => f205_65 pm_FU x2 x3 x1 0 I168 J169) else pm_xb (f174 1 I156 J157) (fun ov172 I173 J174 => f205_65 pm_FU x2 x3 x1 0 I173 J174)))) else (if (999 : Int32).toInt < x2.toInt then pm_xb (f174 0 I150 J151) (fun ov178 I179 J180 => (if x3.toInt < 0 then pm_xb (f174 0 I179 J180) (fun ov184 I185 J186 => f205_65 pm_FU x2 x3 x1 0 I185 J186) else (if (100 : Int32).toInt < x3.toInt then pm_xb (f174 0 I179 J180) (fun ov190 I191 J192 => f205_65 pm_FU x2 x3 x1 0 I191 J192) else pm_xb (f174 1 I179 J180) (fun ov195 I196 J197 => f205_65 pm_FU x2 x3 x1 0 I196 J197)))) else pm_xb (f174 1 I150 J151) (fun ov200 I201 J202 => (if x3.toInt < 0 then pm_xb (f174 0 I201 J202) (fun ov206 I207 J208 => f205_65 pm_FU x2 x3 x1 0 I207 J208) else (if (100 : Int32).toInt < x3.toInt then pm_xb (f174 0 I201 J202) (fun ov212 I213 J214 => f205_65 pm_FU x2 x3 x1 0 I213 J214) else pm_xb (f174 1 I201 J202) (fun ov217 I218 J219 => f205_65 pm_FU x2 x3 x1 0 I218 J219)))))))))
theorem d205_65 {X : (Nat → Int32) × Nat} {d : Nat} {P : Nat → Nat → Value} {e r k r2 k2 : Nat}  (hw : pm_W P r k r2 k2) (he : e < 100000)  : ∀ (fu : Nat) {y2 y3 y4 y5 : Int32} {I : Nat → Nat → Int32} {J : Nat → Nat → Int64} {q : (Int32 ⊕ Nat) × (Nat → Nat → Int32) × (Nat → Nat → Int64)} {z0 : Value} {z1 : Value} {z6 : Value} (h : f205_65 fu y2 y3 y4 y5 I J = some q), pm_Fx X (d + 1) 205 65 [z0, z1, .int y2, .int y3, .int y4, .int y5, z6] [] (I, J, P, pm_T0, e) (pm_sI q.1) (q.2.1, q.2.2, P, pm_T0, pm_sE q.1 e) := by
  obtain ⟨hp, hw1, hw2, hw3, hw4, hw5, hw6, hw7, hw8, hw9, hw10, hw11⟩ := id hw
  have hwa := hw5.1
  have hwb := hw6.1
  have hwc := hw7.1
  have hwd := hw8.1
  intro fu
  induction fu with
  | zero => intro y2 y3 y4 y5 I J q z0 z1 z6 h; cases h
  | succ fu ih =>
    intro y2 y3 y4 y5 I J q z0 z1 z6 h
    rw [f205_65] at h
    refine il5 c205_65 ?_
    refine r_si c205_67 kS600 ?_
    refine r_icgt (t := 114) c205_70 rfl (fun h1 => ?_) (fun h1 => ?_)
    · rw [if_pos h1] at h
      refine r_ic c205_114 kIm1 ?_
      cases h
      exact r_ri c205_115 rt205 rfl rfl
    · rw [if_neg (Int.not_lt.mpr h1)] at h
      refine il4 c205_73 ?_
      refine r_ifgt (t := 81) c205_75 rfl (fun h2 => ?_) (fun h2 => ?_)
      · rw [if_pos h2] at h
        refine il4 c205_81 ?_
        refine il3 c205_83 ?_
        refine r_imul c205_84 ?_
        refine r_si c205_85 kS1000 ?_
        refine r_idiv c205_88 (by decide) ?_
        refine is6 c205_89 rfl ?_
        refine il6 c205_91 ?_
        refine il2 c205_93 ?_
        refine r_iclt (t := 99) c205_94 rfl (fun h3 => ?_) (fun h3 => ?_)
        · rw [if_pos h3] at h
          refine il4 c205_99 ?_
          refine il6 c205_101 ?_
          refine r_iadd c205_103 ?_
          refine il2 c205_104 ?_
          refine r_isub c205_105 ?_
          refine is4 c205_106 rfl ?_
          refine ii5 c205_108 kI1 rfl ?_
          refine r_go (t := 65) c205_111 rfl ?_
          exact ih h
        · rw [if_neg (Int.not_lt.mpr h3)] at h
          refine r_ic c205_97 kIm1 ?_
          cases h
          exact r_ri c205_98 rt205 rfl rfl
      · rw [if_neg (Int.not_lt.mpr h2)] at h
        refine il5 c205_78 ?_
        cases h
        exact r_ri c205_80 rt205 rfl rfl
theorem d205 {X : (Nat → Int32) × Nat} {d : Nat} {I : Nat → Nat → Int32} {J : Nat → Nat → Int64} {P : Nat → Nat → Value} {e r k r2 k2 : Nat} {x1 : Int32} {x2 : Int32} {x3 : Int32} {q : (Int32 ⊕ Nat) × (Nat → Nat → Int32) × (Nat → Nat → Int64)} (hw : pm_W P r k r2 k2) (he : e < 100000)  (h : f205 x1 x2 x3 I J = some q) : pm_Fn X (d + 1) 205 1 [.ref 0, .int x1, .int x2, .int x3] (I, J, P, pm_T0, e) (pm_sI q.1) (q.2.1, q.2.2, P, pm_T0, pm_sE q.1 e) := by
  obtain ⟨hp, hw1, hw2, hw3, hw4, hw5, hw6, hw7, hw8, hw9, hw10, hw11⟩ := id hw
  have hwa := hw5.1
  have hwb := hw6.1
  have hwc := hw7.1
  have hwd := hw8.1
  unfold f205 at h
  refine fn_v rc205 (c := 11) (nf := 14) (by first | rfl | assumption) ml205 rfl rfl rfl rfl ?_
  refine al0 c205_0 ?_
  refine il1 c205_1 ?_
  refine r_iflt (t := 16) c205_2 rfl (fun h1 => ?_) (fun h1 => ?_)
  · rw [if_pos h1] at h
    refine r_ic c205_16 kI0 ?_
    rcases pm_xb_sp h with ⟨ot6, I3, J4, e5, rfl⟩ | ⟨ov2, I3, J4, e5, h⟩
    · exact cx2 q205_17 hh205 (μ1 := (I3, J4, P, pm_T0, e + 1)) (d174 hw he e5) rfl
    refine cz2 q205_17 (μ1 := (I3, J4, P, pm_T0, e)) (d174 hw he e5) rfl ?_
    refine al0 c205_20 ?_
    refine il2 c205_21 ?_
    refine r_iflt (t := 36) c205_22 rfl (fun h7 => ?_) (fun h7 => ?_)
    · rw [if_pos h7] at h
      refine r_ic c205_36 kI0 ?_
      rcases pm_xb_sp h with ⟨ot12, I9, J10, e11, rfl⟩ | ⟨ov8, I9, J10, e11, h⟩
      · exact cx2 q205_37 hh205 (μ1 := (I9, J10, P, pm_T0, e + 1)) (d174 hw he e11) rfl
      refine cz2 q205_37 (μ1 := (I9, J10, P, pm_T0, e)) (d174 hw he e11) rfl ?_
      refine al0 c205_40 ?_
      refine il3 c205_41 ?_
      refine r_iflt (t := 55) c205_42 rfl (fun h13 => ?_) (fun h13 => ?_)
      · rw [if_pos h13] at h
        refine r_ic c205_55 kI0 ?_
        rcases pm_xb_sp h with ⟨ot18, I15, J16, e17, rfl⟩ | ⟨ov14, I15, J16, e17, h⟩
        · exact cx2 q205_56 hh205 (μ1 := (I15, J16, P, pm_T0, e + 1)) (d174 hw he e17) rfl
        refine cz2 q205_56 (μ1 := (I15, J16, P, pm_T0, e)) (d174 hw he e17) rfl ?_
        refine il1 c205_59 ?_
        refine is4 c205_60 rfl ?_
        refine r_ic c205_62 kI0 ?_
        refine is5 c205_63 rfl ?_
        exact d205_65 hw he pm_FU h
      · rw [if_neg (Int.not_lt.mpr h13)] at h
        refine il3 c205_45 ?_
        refine r_bi c205_46 kB100 ?_
        refine r_icgt (t := 55) c205_48 rfl (fun h19 => ?_) (fun h19 => ?_)
        · rw [if_pos h19] at h
          refine r_ic c205_55 kI0 ?_
          rcases pm_xb_sp h with ⟨ot24, I21, J22, e23, rfl⟩ | ⟨ov20, I21, J22, e23, h⟩
          · exact cx2 q205_56 hh205 (μ1 := (I21, J22, P, pm_T0, e + 1)) (d174 hw he e23) rfl
          refine cz2 q205_56 (μ1 := (I21, J22, P, pm_T0, e)) (d174 hw he e23) rfl ?_
          refine il1 c205_59 ?_
          refine is4 c205_60 rfl ?_
          refine r_ic c205_62 kI0 ?_
          refine is5 c205_63 rfl ?_
          exact d205_65 hw he pm_FU h
        · rw [if_neg (Int.not_lt.mpr h19)] at h
          refine r_ic c205_51 kI1 ?_
          refine r_go (t := 56) c205_52 rfl ?_
          rcases pm_xb_sp h with ⟨ot29, I26, J27, e28, rfl⟩ | ⟨ov25, I26, J27, e28, h⟩
          · exact cx2 q205_56 hh205 (μ1 := (I26, J27, P, pm_T0, e + 1)) (d174 hw he e28) rfl
          refine cz2 q205_56 (μ1 := (I26, J27, P, pm_T0, e)) (d174 hw he e28) rfl ?_
          refine il1 c205_59 ?_
          refine is4 c205_60 rfl ?_
          refine r_ic c205_62 kI0 ?_
          refine is5 c205_63 rfl ?_
          exact d205_65 hw he pm_FU h
    · rw [if_neg (Int.not_lt.mpr h7)] at h
      refine il2 c205_25 ?_
      refine r_si c205_26 kS999 ?_
      refine r_icgt (t := 36) c205_29 rfl (fun h30 => ?_) (fun h30 => ?_)
      · rw [if_pos h30] at h
        refine r_ic c205_36 kI0 ?_
        rcases pm_xb_sp h with ⟨ot35, I32, J33, e34, rfl⟩ | ⟨ov31, I32, J33, e34, h⟩
        · exact cx2 q205_37 hh205 (μ1 := (I32, J33, P, pm_T0, e + 1)) (d174 hw he e34) rfl
        refine cz2 q205_37 (μ1 := (I32, J33, P, pm_T0, e)) (d174 hw he e34) rfl ?_
        refine al0 c205_40 ?_
        refine il3 c205_41 ?_
        refine r_iflt (t := 55) c205_42 rfl (fun h36 => ?_) (fun h36 => ?_)
        · rw [if_pos h36] at h
          refine r_ic c205_55 kI0 ?_
          rcases pm_xb_sp h with ⟨ot41, I38, J39, e40, rfl⟩ | ⟨ov37, I38, J39, e40, h⟩
          · exact cx2 q205_56 hh205 (μ1 := (I38, J39, P, pm_T0, e + 1)) (d174 hw he e40) rfl
          refine cz2 q205_56 (μ1 := (I38, J39, P, pm_T0, e)) (d174 hw he e40) rfl ?_
          refine il1 c205_59 ?_
          refine is4 c205_60 rfl ?_
          refine r_ic c205_62 kI0 ?_
          refine is5 c205_63 rfl ?_
          exact d205_65 hw he pm_FU h
        · rw [if_neg (Int.not_lt.mpr h36)] at h
          refine il3 c205_45 ?_
          refine r_bi c205_46 kB100 ?_
          refine r_icgt (t := 55) c205_48 rfl (fun h42 => ?_) (fun h42 => ?_)
          · rw [if_pos h42] at h
            refine r_ic c205_55 kI0 ?_
            rcases pm_xb_sp h with ⟨ot47, I44, J45, e46, rfl⟩ | ⟨ov43, I44, J45, e46, h⟩
            · exact cx2 q205_56 hh205 (μ1 := (I44, J45, P, pm_T0, e + 1)) (d174 hw he e46) rfl
            refine cz2 q205_56 (μ1 := (I44, J45, P, pm_T0, e)) (d174 hw he e46) rfl ?_
            refine il1 c205_59 ?_
            refine is4 c205_60 rfl ?_
            refine r_ic c205_62 kI0 ?_
            refine is5 c205_63 rfl ?_
            exact d205_65 hw he pm_FU h
          · rw [if_neg (Int.not_lt.mpr h42)] at h
            refine r_ic c205_51 kI1 ?_
            refine r_go (t := 56) c205_52 rfl ?_
            rcases pm_xb_sp h with ⟨ot52, I49, J50, e51, rfl⟩ | ⟨ov48, I49, J50, e51, h⟩
            · exact cx2 q205_56 hh205 (μ1 := (I49, J50, P, pm_T0, e + 1)) (d174 hw he e51) rfl
            refine cz2 q205_56 (μ1 := (I49, J50, P, pm_T0, e)) (d174 hw he e51) rfl ?_
            refine il1 c205_59 ?_
            refine is4 c205_60 rfl ?_
            refine r_ic c205_62 kI0 ?_
            refine is5 c205_63 rfl ?_
            exact d205_65 hw he pm_FU h
      · rw [if_neg (Int.not_lt.mpr h30)] at h
        refine r_ic c205_32 kI1 ?_
        refine r_go (t := 37) c205_33 rfl ?_
        rcases pm_xb_sp h with ⟨ot57, I54, J55, e56, rfl⟩ | ⟨ov53, I54, J55, e56, h⟩
        · exact cx2 q205_37 hh205 (μ1 := (I54, J55, P, pm_T0, e + 1)) (d174 hw he e56) rfl
        refine cz2 q205_37 (μ1 := (I54, J55, P, pm_T0, e)) (d174 hw he e56) rfl ?_
        refine al0 c205_40 ?_
        refine il3 c205_41 ?_
        refine r_iflt (t := 55) c205_42 rfl (fun h58 => ?_) (fun h58 => ?_)
        · rw [if_pos h58] at h
          refine r_ic c205_55 kI0 ?_
          rcases pm_xb_sp h with ⟨ot63, I60, J61, e62, rfl⟩ | ⟨ov59, I60, J61, e62, h⟩
          · exact cx2 q205_56 hh205 (μ1 := (I60, J61, P, pm_T0, e + 1)) (d174 hw he e62) rfl
          refine cz2 q205_56 (μ1 := (I60, J61, P, pm_T0, e)) (d174 hw he e62) rfl ?_
          refine il1 c205_59 ?_
          refine is4 c205_60 rfl ?_
          refine r_ic c205_62 kI0 ?_
          refine is5 c205_63 rfl ?_
          exact d205_65 hw he pm_FU h
        · rw [if_neg (Int.not_lt.mpr h58)] at h
          refine il3 c205_45 ?_
          refine r_bi c205_46 kB100 ?_
          refine r_icgt (t := 55) c205_48 rfl (fun h64 => ?_) (fun h64 => ?_)
          · rw [if_pos h64] at h
            refine r_ic c205_55 kI0 ?_
            rcases pm_xb_sp h with ⟨ot69, I66, J67, e68, rfl⟩ | ⟨ov65, I66, J67, e68, h⟩
            · exact cx2 q205_56 hh205 (μ1 := (I66, J67, P, pm_T0, e + 1)) (d174 hw he e68) rfl
            refine cz2 q205_56 (μ1 := (I66, J67, P, pm_T0, e)) (d174 hw he e68) rfl ?_
            refine il1 c205_59 ?_
            refine is4 c205_60 rfl ?_
            refine r_ic c205_62 kI0 ?_
            refine is5 c205_63 rfl ?_
            exact d205_65 hw he pm_FU h
          · rw [if_neg (Int.not_lt.mpr h64)] at h
            refine r_ic c205_51 kI1 ?_
            refine r_go (t := 56) c205_52 rfl ?_
            rcases pm_xb_sp h with ⟨ot74, I71, J72, e73, rfl⟩ | ⟨ov70, I71, J72, e73, h⟩
            · exact cx2 q205_56 hh205 (μ1 := (I71, J72, P, pm_T0, e + 1)) (d174 hw he e73) rfl
            refine cz2 q205_56 (μ1 := (I71, J72, P, pm_T0, e)) (d174 hw he e73) rfl ?_
            refine il1 c205_59 ?_
            refine is4 c205_60 rfl ?_
            refine r_ic c205_62 kI0 ?_
            refine is5 c205_63 rfl ?_
            exact d205_65 hw he pm_FU h
  · rw [if_neg (Int.not_lt.mpr h1)] at h
    refine il1 c205_5 ?_
    refine r_si c205_6 kS9999 ?_
    refine r_icgt (t := 16) c205_9 rfl (fun h75 => ?_) (fun h75 => ?_)
    · rw [if_pos h75] at h
      refine r_ic c205_16 kI0 ?_
      rcases pm_xb_sp h with ⟨ot80, I77, J78, e79, rfl⟩ | ⟨ov76, I77, J78, e79, h⟩
      · exact cx2 q205_17 hh205 (μ1 := (I77, J78, P, pm_T0, e + 1)) (d174 hw he e79) rfl
      refine cz2 q205_17 (μ1 := (I77, J78, P, pm_T0, e)) (d174 hw he e79) rfl ?_
      refine al0 c205_20 ?_
      refine il2 c205_21 ?_
      refine r_iflt (t := 36) c205_22 rfl (fun h81 => ?_) (fun h81 => ?_)
      · rw [if_pos h81] at h
        refine r_ic c205_36 kI0 ?_
        rcases pm_xb_sp h with ⟨ot86, I83, J84, e85, rfl⟩ | ⟨ov82, I83, J84, e85, h⟩
        · exact cx2 q205_37 hh205 (μ1 := (I83, J84, P, pm_T0, e + 1)) (d174 hw he e85) rfl
        refine cz2 q205_37 (μ1 := (I83, J84, P, pm_T0, e)) (d174 hw he e85) rfl ?_
        refine al0 c205_40 ?_
        refine il3 c205_41 ?_
        refine r_iflt (t := 55) c205_42 rfl (fun h87 => ?_) (fun h87 => ?_)
        · rw [if_pos h87] at h
          refine r_ic c205_55 kI0 ?_
          rcases pm_xb_sp h with ⟨ot92, I89, J90, e91, rfl⟩ | ⟨ov88, I89, J90, e91, h⟩
          · exact cx2 q205_56 hh205 (μ1 := (I89, J90, P, pm_T0, e + 1)) (d174 hw he e91) rfl
          refine cz2 q205_56 (μ1 := (I89, J90, P, pm_T0, e)) (d174 hw he e91) rfl ?_
          refine il1 c205_59 ?_
          refine is4 c205_60 rfl ?_
          refine r_ic c205_62 kI0 ?_
          refine is5 c205_63 rfl ?_
          exact d205_65 hw he pm_FU h
        · rw [if_neg (Int.not_lt.mpr h87)] at h
          refine il3 c205_45 ?_
          refine r_bi c205_46 kB100 ?_
          refine r_icgt (t := 55) c205_48 rfl (fun h93 => ?_) (fun h93 => ?_)
          · rw [if_pos h93] at h
            refine r_ic c205_55 kI0 ?_
            rcases pm_xb_sp h with ⟨ot98, I95, J96, e97, rfl⟩ | ⟨ov94, I95, J96, e97, h⟩
            · exact cx2 q205_56 hh205 (μ1 := (I95, J96, P, pm_T0, e + 1)) (d174 hw he e97) rfl
            refine cz2 q205_56 (μ1 := (I95, J96, P, pm_T0, e)) (d174 hw he e97) rfl ?_
            refine il1 c205_59 ?_
            refine is4 c205_60 rfl ?_
            refine r_ic c205_62 kI0 ?_
            refine is5 c205_63 rfl ?_
            exact d205_65 hw he pm_FU h
          · rw [if_neg (Int.not_lt.mpr h93)] at h
            refine r_ic c205_51 kI1 ?_
            refine r_go (t := 56) c205_52 rfl ?_
            rcases pm_xb_sp h with ⟨ot103, I100, J101, e102, rfl⟩ | ⟨ov99, I100, J101, e102, h⟩
            · exact cx2 q205_56 hh205 (μ1 := (I100, J101, P, pm_T0, e + 1)) (d174 hw he e102) rfl
            refine cz2 q205_56 (μ1 := (I100, J101, P, pm_T0, e)) (d174 hw he e102) rfl ?_
            refine il1 c205_59 ?_
            refine is4 c205_60 rfl ?_
            refine r_ic c205_62 kI0 ?_
            refine is5 c205_63 rfl ?_
            exact d205_65 hw he pm_FU h
      · rw [if_neg (Int.not_lt.mpr h81)] at h
        refine il2 c205_25 ?_
        refine r_si c205_26 kS999 ?_
        refine r_icgt (t := 36) c205_29 rfl (fun h104 => ?_) (fun h104 => ?_)
        · rw [if_pos h104] at h
          refine r_ic c205_36 kI0 ?_
          rcases pm_xb_sp h with ⟨ot109, I106, J107, e108, rfl⟩ | ⟨ov105, I106, J107, e108, h⟩
          · exact cx2 q205_37 hh205 (μ1 := (I106, J107, P, pm_T0, e + 1)) (d174 hw he e108) rfl
          refine cz2 q205_37 (μ1 := (I106, J107, P, pm_T0, e)) (d174 hw he e108) rfl ?_
          refine al0 c205_40 ?_
          refine il3 c205_41 ?_
          refine r_iflt (t := 55) c205_42 rfl (fun h110 => ?_) (fun h110 => ?_)
          · rw [if_pos h110] at h
            refine r_ic c205_55 kI0 ?_
            rcases pm_xb_sp h with ⟨ot115, I112, J113, e114, rfl⟩ | ⟨ov111, I112, J113, e114, h⟩
            · exact cx2 q205_56 hh205 (μ1 := (I112, J113, P, pm_T0, e + 1)) (d174 hw he e114) rfl
            refine cz2 q205_56 (μ1 := (I112, J113, P, pm_T0, e)) (d174 hw he e114) rfl ?_
            refine il1 c205_59 ?_
            refine is4 c205_60 rfl ?_
            refine r_ic c205_62 kI0 ?_
            refine is5 c205_63 rfl ?_
            exact d205_65 hw he pm_FU h
          · rw [if_neg (Int.not_lt.mpr h110)] at h
            refine il3 c205_45 ?_
            refine r_bi c205_46 kB100 ?_
            refine r_icgt (t := 55) c205_48 rfl (fun h116 => ?_) (fun h116 => ?_)
            · rw [if_pos h116] at h
              refine r_ic c205_55 kI0 ?_
              rcases pm_xb_sp h with ⟨ot121, I118, J119, e120, rfl⟩ | ⟨ov117, I118, J119, e120, h⟩
              · exact cx2 q205_56 hh205 (μ1 := (I118, J119, P, pm_T0, e + 1)) (d174 hw he e120) rfl
              refine cz2 q205_56 (μ1 := (I118, J119, P, pm_T0, e)) (d174 hw he e120) rfl ?_
              refine il1 c205_59 ?_
              refine is4 c205_60 rfl ?_
              refine r_ic c205_62 kI0 ?_
              refine is5 c205_63 rfl ?_
              exact d205_65 hw he pm_FU h
            · rw [if_neg (Int.not_lt.mpr h116)] at h
              refine r_ic c205_51 kI1 ?_
              refine r_go (t := 56) c205_52 rfl ?_
              rcases pm_xb_sp h with ⟨ot126, I123, J124, e125, rfl⟩ | ⟨ov122, I123, J124, e125, h⟩
              · exact cx2 q205_56 hh205 (μ1 := (I123, J124, P, pm_T0, e + 1)) (d174 hw he e125) rfl
              refine cz2 q205_56 (μ1 := (I123, J124, P, pm_T0, e)) (d174 hw he e125) rfl ?_
              refine il1 c205_59 ?_
              refine is4 c205_60 rfl ?_
              refine r_ic c205_62 kI0 ?_
              refine is5 c205_63 rfl ?_
              exact d205_65 hw he pm_FU h
        · rw [if_neg (Int.not_lt.mpr h104)] at h
          refine r_ic c205_32 kI1 ?_
          refine r_go (t := 37) c205_33 rfl ?_
          rcases pm_xb_sp h with ⟨ot131, I128, J129, e130, rfl⟩ | ⟨ov127, I128, J129, e130, h⟩
          · exact cx2 q205_37 hh205 (μ1 := (I128, J129, P, pm_T0, e + 1)) (d174 hw he e130) rfl
          refine cz2 q205_37 (μ1 := (I128, J129, P, pm_T0, e)) (d174 hw he e130) rfl ?_
          refine al0 c205_40 ?_
          refine il3 c205_41 ?_
          refine r_iflt (t := 55) c205_42 rfl (fun h132 => ?_) (fun h132 => ?_)
          · rw [if_pos h132] at h
            refine r_ic c205_55 kI0 ?_
            rcases pm_xb_sp h with ⟨ot137, I134, J135, e136, rfl⟩ | ⟨ov133, I134, J135, e136, h⟩
            · exact cx2 q205_56 hh205 (μ1 := (I134, J135, P, pm_T0, e + 1)) (d174 hw he e136) rfl
            refine cz2 q205_56 (μ1 := (I134, J135, P, pm_T0, e)) (d174 hw he e136) rfl ?_
            refine il1 c205_59 ?_
            refine is4 c205_60 rfl ?_
            refine r_ic c205_62 kI0 ?_
            refine is5 c205_63 rfl ?_
            exact d205_65 hw he pm_FU h
          · rw [if_neg (Int.not_lt.mpr h132)] at h
            refine il3 c205_45 ?_
            refine r_bi c205_46 kB100 ?_
            refine r_icgt (t := 55) c205_48 rfl (fun h138 => ?_) (fun h138 => ?_)
            · rw [if_pos h138] at h
              refine r_ic c205_55 kI0 ?_
              rcases pm_xb_sp h with ⟨ot143, I140, J141, e142, rfl⟩ | ⟨ov139, I140, J141, e142, h⟩
              · exact cx2 q205_56 hh205 (μ1 := (I140, J141, P, pm_T0, e + 1)) (d174 hw he e142) rfl
              refine cz2 q205_56 (μ1 := (I140, J141, P, pm_T0, e)) (d174 hw he e142) rfl ?_
              refine il1 c205_59 ?_
              refine is4 c205_60 rfl ?_
              refine r_ic c205_62 kI0 ?_
              refine is5 c205_63 rfl ?_
              exact d205_65 hw he pm_FU h
            · rw [if_neg (Int.not_lt.mpr h138)] at h
              refine r_ic c205_51 kI1 ?_
              refine r_go (t := 56) c205_52 rfl ?_
              rcases pm_xb_sp h with ⟨ot148, I145, J146, e147, rfl⟩ | ⟨ov144, I145, J146, e147, h⟩
              · exact cx2 q205_56 hh205 (μ1 := (I145, J146, P, pm_T0, e + 1)) (d174 hw he e147) rfl
              refine cz2 q205_56 (μ1 := (I145, J146, P, pm_T0, e)) (d174 hw he e147) rfl ?_
              refine il1 c205_59 ?_
              refine is4 c205_60 rfl ?_
              refine r_ic c205_62 kI0 ?_
              refine is5 c205_63 rfl ?_
              exact d205_65 hw he pm_FU h
    · rw [if_neg (Int.not_lt.mpr h75)] at h
      refine r_ic c205_12 kI1 ?_
      refine r_go (t := 17) c205_13 rfl ?_
      rcases pm_xb_sp h with ⟨ot153, I150, J151, e152, rfl⟩ | ⟨ov149, I150, J151, e152, h⟩
      · exact cx2 q205_17 hh205 (μ1 := (I150, J151, P, pm_T0, e + 1)) (d174 hw he e152) rfl
      refine cz2 q205_17 (μ1 := (I150, J151, P, pm_T0, e)) (d174 hw he e152) rfl ?_
      refine al0 c205_20 ?_
      refine il2 c205_21 ?_
      refine r_iflt (t := 36) c205_22 rfl (fun h154 => ?_) (fun h154 => ?_)
      · rw [if_pos h154] at h
        refine r_ic c205_36 kI0 ?_
        rcases pm_xb_sp h with ⟨ot159, I156, J157, e158, rfl⟩ | ⟨ov155, I156, J157, e158, h⟩
        · exact cx2 q205_37 hh205 (μ1 := (I156, J157, P, pm_T0, e + 1)) (d174 hw he e158) rfl
        refine cz2 q205_37 (μ1 := (I156, J157, P, pm_T0, e)) (d174 hw he e158) rfl ?_
        refine al0 c205_40 ?_
        refine il3 c205_41 ?_
        refine r_iflt (t := 55) c205_42 rfl (fun h160 => ?_) (fun h160 => ?_)
        · rw [if_pos h160] at h
          refine r_ic c205_55 kI0 ?_
          rcases pm_xb_sp h with ⟨ot165, I162, J163, e164, rfl⟩ | ⟨ov161, I162, J163, e164, h⟩
          · exact cx2 q205_56 hh205 (μ1 := (I162, J163, P, pm_T0, e + 1)) (d174 hw he e164) rfl
          refine cz2 q205_56 (μ1 := (I162, J163, P, pm_T0, e)) (d174 hw he e164) rfl ?_
          refine il1 c205_59 ?_
          refine is4 c205_60 rfl ?_
          refine r_ic c205_62 kI0 ?_
          refine is5 c205_63 rfl ?_
          exact d205_65 hw he pm_FU h
        · rw [if_neg (Int.not_lt.mpr h160)] at h
          refine il3 c205_45 ?_
          refine r_bi c205_46 kB100 ?_
          refine r_icgt (t := 55) c205_48 rfl (fun h166 => ?_) (fun h166 => ?_)
          · rw [if_pos h166] at h
            refine r_ic c205_55 kI0 ?_
            rcases pm_xb_sp h with ⟨ot171, I168, J169, e170, rfl⟩ | ⟨ov167, I168, J169, e170, h⟩
            · exact cx2 q205_56 hh205 (μ1 := (I168, J169, P, pm_T0, e + 1)) (d174 hw he e170) rfl
            refine cz2 q205_56 (μ1 := (I168, J169, P, pm_T0, e)) (d174 hw he e170) rfl ?_
            refine il1 c205_59 ?_
            refine is4 c205_60 rfl ?_
            refine r_ic c205_62 kI0 ?_
            refine is5 c205_63 rfl ?_
            exact d205_65 hw he pm_FU h
          · rw [if_neg (Int.not_lt.mpr h166)] at h
            refine r_ic c205_51 kI1 ?_
            refine r_go (t := 56) c205_52 rfl ?_
            rcases pm_xb_sp h with ⟨ot176, I173, J174, e175, rfl⟩ | ⟨ov172, I173, J174, e175, h⟩
            · exact cx2 q205_56 hh205 (μ1 := (I173, J174, P, pm_T0, e + 1)) (d174 hw he e175) rfl
            refine cz2 q205_56 (μ1 := (I173, J174, P, pm_T0, e)) (d174 hw he e175) rfl ?_
            refine il1 c205_59 ?_
            refine is4 c205_60 rfl ?_
            refine r_ic c205_62 kI0 ?_
            refine is5 c205_63 rfl ?_
            exact d205_65 hw he pm_FU h
      · rw [if_neg (Int.not_lt.mpr h154)] at h
        refine il2 c205_25 ?_
        refine r_si c205_26 kS999 ?_
        refine r_icgt (t := 36) c205_29 rfl (fun h177 => ?_) (fun h177 => ?_)
        · rw [if_pos h177] at h
          refine r_ic c205_36 kI0 ?_
          rcases pm_xb_sp h with ⟨ot182, I179, J180, e181, rfl⟩ | ⟨ov178, I179, J180, e181, h⟩
          · exact cx2 q205_37 hh205 (μ1 := (I179, J180, P, pm_T0, e + 1)) (d174 hw he e181) rfl
          refine cz2 q205_37 (μ1 := (I179, J180, P, pm_T0, e)) (d174 hw he e181) rfl ?_
          refine al0 c205_40 ?_
          refine il3 c205_41 ?_
          refine r_iflt (t := 55) c205_42 rfl (fun h183 => ?_) (fun h183 => ?_)
          · rw [if_pos h183] at h
            refine r_ic c205_55 kI0 ?_
            rcases pm_xb_sp h with ⟨ot188, I185, J186, e187, rfl⟩ | ⟨ov184, I185, J186, e187, h⟩
            · exact cx2 q205_56 hh205 (μ1 := (I185, J186, P, pm_T0, e + 1)) (d174 hw he e187) rfl
            refine cz2 q205_56 (μ1 := (I185, J186, P, pm_T0, e)) (d174 hw he e187) rfl ?_
            refine il1 c205_59 ?_
            refine is4 c205_60 rfl ?_
            refine r_ic c205_62 kI0 ?_
            refine is5 c205_63 rfl ?_
            exact d205_65 hw he pm_FU h
          · rw [if_neg (Int.not_lt.mpr h183)] at h
            refine il3 c205_45 ?_
            refine r_bi c205_46 kB100 ?_
            refine r_icgt (t := 55) c205_48 rfl (fun h189 => ?_) (fun h189 => ?_)
            · rw [if_pos h189] at h
              refine r_ic c205_55 kI0 ?_
              rcases pm_xb_sp h with ⟨ot194, I191, J192, e193, rfl⟩ | ⟨ov190, I191, J192, e193, h⟩
              · exact cx2 q205_56 hh205 (μ1 := (I191, J192, P, pm_T0, e + 1)) (d174 hw he e193) rfl
              refine cz2 q205_56 (μ1 := (I191, J192, P, pm_T0, e)) (d174 hw he e193) rfl ?_
              refine il1 c205_59 ?_
              refine is4 c205_60 rfl ?_
              refine r_ic c205_62 kI0 ?_
              refine is5 c205_63 rfl ?_
              exact d205_65 hw he pm_FU h
            · rw [if_neg (Int.not_lt.mpr h189)] at h
              refine r_ic c205_51 kI1 ?_
              refine r_go (t := 56) c205_52 rfl ?_
              rcases pm_xb_sp h with ⟨ot199, I196, J197, e198, rfl⟩ | ⟨ov195, I196, J197, e198, h⟩
              · exact cx2 q205_56 hh205 (μ1 := (I196, J197, P, pm_T0, e + 1)) (d174 hw he e198) rfl
              refine cz2 q205_56 (μ1 := (I196, J197, P, pm_T0, e)) (d174 hw he e198) rfl ?_
              refine il1 c205_59 ?_
              refine is4 c205_60 rfl ?_
              refine r_ic c205_62 kI0 ?_
              refine is5 c205_63 rfl ?_
              exact d205_65 hw he pm_FU h
        · rw [if_neg (Int.not_lt.mpr h177)] at h
          refine r_ic c205_32 kI1 ?_
          refine r_go (t := 37) c205_33 rfl ?_
          rcases pm_xb_sp h with ⟨ot204, I201, J202, e203, rfl⟩ | ⟨ov200, I201, J202, e203, h⟩
          · exact cx2 q205_37 hh205 (μ1 := (I201, J202, P, pm_T0, e + 1)) (d174 hw he e203) rfl
          refine cz2 q205_37 (μ1 := (I201, J202, P, pm_T0, e)) (d174 hw he e203) rfl ?_
          refine al0 c205_40 ?_
          refine il3 c205_41 ?_
          refine r_iflt (t := 55) c205_42 rfl (fun h205 => ?_) (fun h205 => ?_)
          · rw [if_pos h205] at h
            refine r_ic c205_55 kI0 ?_
            rcases pm_xb_sp h with ⟨ot210, I207, J208, e209, rfl⟩ | ⟨ov206, I207, J208, e209, h⟩
            · exact cx2 q205_56 hh205 (μ1 := (I207, J208, P, pm_T0, e + 1)) (d174 hw he e209) rfl
            refine cz2 q205_56 (μ1 := (I207, J208, P, pm_T0, e)) (d174 hw he e209) rfl ?_
            refine il1 c205_59 ?_
            refine is4 c205_60 rfl ?_
            refine r_ic c205_62 kI0 ?_
            refine is5 c205_63 rfl ?_
            exact d205_65 hw he pm_FU h
          · rw [if_neg (Int.not_lt.mpr h205)] at h
            refine il3 c205_45 ?_
            refine r_bi c205_46 kB100 ?_
            refine r_icgt (t := 55) c205_48 rfl (fun h211 => ?_) (fun h211 => ?_)
            · rw [if_pos h211] at h
              refine r_ic c205_55 kI0 ?_
              rcases pm_xb_sp h with ⟨ot216, I213, J214, e215, rfl⟩ | ⟨ov212, I213, J214, e215, h⟩
              · exact cx2 q205_56 hh205 (μ1 := (I213, J214, P, pm_T0, e + 1)) (d174 hw he e215) rfl
              refine cz2 q205_56 (μ1 := (I213, J214, P, pm_T0, e)) (d174 hw he e215) rfl ?_
              refine il1 c205_59 ?_
              refine is4 c205_60 rfl ?_
              refine r_ic c205_62 kI0 ?_
              refine is5 c205_63 rfl ?_
              exact d205_65 hw he pm_FU h
            · rw [if_neg (Int.not_lt.mpr h211)] at h
              refine r_ic c205_51 kI1 ?_
              refine r_go (t := 56) c205_52 rfl ?_
              rcases pm_xb_sp h with ⟨ot221, I218, J219, e220, rfl⟩ | ⟨ov217, I218, J219, e220, h⟩
              · exact cx2 q205_56 hh205 (μ1 := (I218, J219, P, pm_T0, e + 1)) (d174 hw he e220) rfl
              refine cz2 q205_56 (μ1 := (I218, J219, P, pm_T0, e)) (d174 hw he e220) rfl ?_
              refine il1 c205_59 ?_
              refine is4 c205_60 rfl ?_
              refine r_ic c205_62 kI0 ?_
              refine is5 c205_63 rfl ?_
              exact d205_65 hw he pm_FU h
def f206 (r : Nat) (x1 : Int32) (x2 : Int32) (I : Nat → Nat → Int32) (J : Nat → Nat → Int64) : Option ((Int32 ⊕ Nat) × (Nat → Nat → Int32) × (Nat → Nat → Int64)) := pm_xb (f182 r x1 I J) (fun ov1 I2 J3 => (if x2.toInt < 0 then pm_xb (f174 0 I2 J3) (fun ov7 I8 J9 => (f60 r x1 x2 I8 J9).bind (fun (ov12, I13, J14) => some (.inl ov12, I13, J14))) else (if (99 : Int32).toInt < x2.toInt then pm_xb (f174 0 I2 J3) (fun ov17 I18 J19 => (f60 r x1 x2 I18 J19).bind (fun (ov22, I23, J24) => some (.inl ov22, I23, J24))) else pm_xb (f174 1 I2 J3) (fun ov26 I27 J28 => (f60 r x1 x2 I27 J28).bind (fun (ov31, I32, J33) => some (.inl ov31, I32, J33))))))
theorem d206 {X : (Nat → Int32) × Nat} {d : Nat} {I : Nat → Nat → Int32} {J : Nat → Nat → Int64} {P : Nat → Nat → Value} {e r k r2 k2 : Nat} {x1 : Int32} {x2 : Int32} {q : (Int32 ⊕ Nat) × (Nat → Nat → Int32) × (Nat → Nat → Int64)} (hw : pm_W P r k r2 k2) (he : e < 100000)  (h : f206 r x1 x2 I J = some q) : pm_Fn X (d + 5) 206 1 [.ref 0, .int x1, .int x2] (I, J, P, pm_T0, e) (pm_sI q.1) (q.2.1, q.2.2, P, pm_T0, pm_sE q.1 e) := by
  obtain ⟨hp, hw1, hw2, hw3, hw4, hw5, hw6, hw7, hw8, hw9, hw10, hw11⟩ := id hw
  have hwa := hw5.1
  have hwb := hw6.1
  have hwc := hw7.1
  have hwd := hw8.1
  unfold f206 at h
  refine fn_v rc206 (c := 11) (nf := 14) (by first | rfl | assumption) ml206 rfl rfl rfl rfl ?_
  refine al0 c206_0 ?_
  refine il1 c206_1 ?_
  rcases pm_xb_sp h with ⟨ot5, I2, J3, e4, rfl⟩ | ⟨ov1, I2, J3, e4, h⟩
  · exact cx2 q206_2 hh206 (μ1 := (I2, J3, P, pm_T0, e + 1)) (d182 hw he e4) rfl
  refine cz2 q206_2 (μ1 := (I2, J3, P, pm_T0, e)) (d182 hw he e4) rfl ?_
  refine al0 c206_5 ?_
  refine il2 c206_6 ?_
  refine r_iflt (t := 20) c206_7 rfl (fun h6 => ?_) (fun h6 => ?_)
  · rw [if_pos h6] at h
    refine r_ic c206_20 kI0 ?_
    rcases pm_xb_sp h with ⟨ot11, I8, J9, e10, rfl⟩ | ⟨ov7, I8, J9, e10, h⟩
    · exact cx2 q206_21 hh206 (μ1 := (I8, J9, P, pm_T0, e + 1)) (d174 hw he e10) rfl
    refine cz2 q206_21 (μ1 := (I8, J9, P, pm_T0, e)) (d174 hw he e10) rfl ?_
    refine al0 c206_24 ?_
    refine r_gr g206_25 rfl rfl (hp _ _ _ rfl) ?_
    refine il1 c206_28 ?_
    refine il2 c206_29 ?_
    obtain ⟨⟨ov12, I13, J14⟩, e15, h⟩ := pm_bd_sp h
    dsimp only at h
    refine cv3 q206_30 (v := .int ov12) (μ1 := (I13, J14, P, pm_T0, e)) (d60 hw e15) rfl ?_
    cases h
    exact r_ri c206_33 rt206 rfl rfl
  · rw [if_neg (Int.not_lt.mpr h6)] at h
    refine il2 c206_10 ?_
    refine r_bi c206_11 kB99 ?_
    refine r_icgt (t := 20) c206_13 rfl (fun h16 => ?_) (fun h16 => ?_)
    · rw [if_pos h16] at h
      refine r_ic c206_20 kI0 ?_
      rcases pm_xb_sp h with ⟨ot21, I18, J19, e20, rfl⟩ | ⟨ov17, I18, J19, e20, h⟩
      · exact cx2 q206_21 hh206 (μ1 := (I18, J19, P, pm_T0, e + 1)) (d174 hw he e20) rfl
      refine cz2 q206_21 (μ1 := (I18, J19, P, pm_T0, e)) (d174 hw he e20) rfl ?_
      refine al0 c206_24 ?_
      refine r_gr g206_25 rfl rfl (hp _ _ _ rfl) ?_
      refine il1 c206_28 ?_
      refine il2 c206_29 ?_
      obtain ⟨⟨ov22, I23, J24⟩, e25, h⟩ := pm_bd_sp h
      dsimp only at h
      refine cv3 q206_30 (v := .int ov22) (μ1 := (I23, J24, P, pm_T0, e)) (d60 hw e25) rfl ?_
      cases h
      exact r_ri c206_33 rt206 rfl rfl
    · rw [if_neg (Int.not_lt.mpr h16)] at h
      refine r_ic c206_16 kI1 ?_
      refine r_go (t := 21) c206_17 rfl ?_
      rcases pm_xb_sp h with ⟨ot30, I27, J28, e29, rfl⟩ | ⟨ov26, I27, J28, e29, h⟩
      · exact cx2 q206_21 hh206 (μ1 := (I27, J28, P, pm_T0, e + 1)) (d174 hw he e29) rfl
      refine cz2 q206_21 (μ1 := (I27, J28, P, pm_T0, e)) (d174 hw he e29) rfl ?_
      refine al0 c206_24 ?_
      refine r_gr g206_25 rfl rfl (hp _ _ _ rfl) ?_
      refine il1 c206_28 ?_
      refine il2 c206_29 ?_
      obtain ⟨⟨ov31, I32, J33⟩, e34, h⟩ := pm_bd_sp h
      dsimp only at h
      refine cv3 q206_30 (v := .int ov31) (μ1 := (I32, J33, P, pm_T0, e)) (d60 hw e34) rfl ?_
      cases h
      exact r_ri c206_33 rt206 rfl rfl
def v208 (x0 : Int32) (x1 : Int32) (x2 : Int32) (I : Nat → Nat → Int32) : Int32 := (if x0.toInt < x1.toInt then 0 else (if x1.toInt < x0.toInt then x2 - x0 else (x2 - x0) / 2))
theorem d208 {X : (Nat → Int32) × Nat} {d : Nat} {I : Nat → Nat → Int32} {J : Nat → Nat → Int64} {P : Nat → Nat → Value} {e r k r2 k2 : Nat} {x0 : Int32} {x1 : Int32} {x2 : Int32} {q : Int32} (hw : pm_W P r k r2 k2)  (h : v208 x0 x1 x2 I = q) : pm_Fn X (d) 208 0 [.int x0, .int x1, .int x2] (I, J, P, pm_T0, e) (.inl (some (.int q))) (I, J, P, pm_T0, e) := by
  obtain ⟨hp, hw1, hw2, hw3, hw4, hw5, hw6, hw7, hw8, hw9, hw10, hw11⟩ := id hw
  have hwa := hw5.1
  have hwb := hw6.1
  have hwc := hw7.1
  have hwd := hw8.1
  unfold v208 at h
  refine fn_s ml208 rfl rfl rfl ?_
  refine il0 c208_0 ?_
  refine il1 c208_1 ?_
  refine r_icge (t := 7) c208_2 rfl (fun h1 => ?_) (fun h1 => ?_)
  · rw [if_neg (Int.not_lt.mpr h1)] at h
    refine il0 c208_7 ?_
    refine il1 c208_8 ?_
    refine r_icle (t := 18) c208_9 rfl (fun h2 => ?_) (fun h2 => ?_)
    · rw [if_neg (Int.not_lt.mpr h2)] at h
      refine il2 c208_18 ?_
      refine il0 c208_19 ?_
      refine r_isub c208_20 ?_
      refine r_ic c208_21 kI2 ?_
      refine r_idiv c208_22 (by decide) ?_
      cases h
      exact r_ri c208_23 rt208 rfl rfl
    · rw [if_pos h2] at h
      refine il2 c208_12 ?_
      refine il0 c208_13 ?_
      refine r_isub c208_14 ?_
      refine r_go (t := 23) c208_15 rfl ?_
      cases h
      exact r_ri c208_23 rt208 rfl rfl
  · rw [if_pos h1] at h
    refine r_ic c208_5 kI0 ?_
    cases h
    exact r_ri c208_6 rt208 rfl rfl
def v209 (x0 : Int32) (x1 : Int32) (x2 : Int32) (I : Nat → Nat → Int32) : Int32 := (if 0 < x1.toInt then (if x1.toInt < x0.toInt then pm_max (pm_max (v208 x1 x1 x2 I) 0) (v208 (x1 + 1) x1 x2 I) else pm_max (v208 x1 x1 x2 I) 0) else (if x1.toInt < x0.toInt then pm_max (v208 x1 x1 x2 I) (v208 (x1 + 1) x1 x2 I) else v208 x1 x1 x2 I))
theorem d209 {X : (Nat → Int32) × Nat} {d : Nat} {I : Nat → Nat → Int32} {J : Nat → Nat → Int64} {P : Nat → Nat → Value} {e r k r2 k2 : Nat} {x0 : Int32} {x1 : Int32} {x2 : Int32} {q : Int32} (hw : pm_W P r k r2 k2)  (h : v209 x0 x1 x2 I = q) : pm_Fn X (d + 1) 209 0 [.int x0, .int x1, .int x2] (I, J, P, pm_T0, e) (.inl (some (.int q))) (I, J, P, pm_T0, e) := by
  obtain ⟨hp, hw1, hw2, hw3, hw4, hw5, hw6, hw7, hw8, hw9, hw10, hw11⟩ := id hw
  have hwa := hw5.1
  have hwb := hw6.1
  have hwc := hw7.1
  have hwd := hw8.1
  unfold v209 at h
  refine fn_s ml209 rfl rfl rfl ?_
  refine il1 c209_0 ?_
  refine il1 c209_1 ?_
  refine il2 c209_2 ?_
  refine cv3 q209_3 (d208 hw rfl) rfl ?_
  refine is3 c209_6 rfl ?_
  refine il1 c209_7 ?_
  refine r_ifle (t := 17) c209_8 rfl (fun h1 => ?_) (fun h1 => ?_)
  · rw [if_neg (Int.not_lt.mpr h1)] at h
    refine il1 c209_17 ?_
    refine il0 c209_18 ?_
    refine r_icge (t := 35) c209_19 rfl (fun h2 => ?_) (fun h2 => ?_)
    · rw [if_neg (Int.not_lt.mpr h2)] at h
      refine il3 c209_35 ?_
      cases h
      exact r_ri c209_36 rt209 rfl rfl
    · rw [if_pos h2] at h
      refine il3 c209_22 ?_
      refine il1 c209_23 ?_
      refine r_ic c209_24 kI1 ?_
      refine r_iadd c209_25 ?_
      refine il1 c209_26 ?_
      refine il2 c209_27 ?_
      refine cv3 q209_28 (d208 hw rfl) rfl ?_
      refine cv2 q209_31 s362 rfl ?_
      refine is3 c209_34 rfl ?_
      refine il3 c209_35 ?_
      cases h
      exact r_ri c209_36 rt209 rfl rfl
  · rw [if_pos h1] at h
    refine il3 c209_11 ?_
    refine r_ic c209_12 kI0 ?_
    refine cv2 q209_13 s362 rfl ?_
    refine is3 c209_16 rfl ?_
    refine il1 c209_17 ?_
    refine il0 c209_18 ?_
    refine r_icge (t := 35) c209_19 rfl (fun h3 => ?_) (fun h3 => ?_)
    · rw [if_neg (Int.not_lt.mpr h3)] at h
      refine il3 c209_35 ?_
      cases h
      exact r_ri c209_36 rt209 rfl rfl
    · rw [if_pos h3] at h
      refine il3 c209_22 ?_
      refine il1 c209_23 ?_
      refine r_ic c209_24 kI1 ?_
      refine r_iadd c209_25 ?_
      refine il1 c209_26 ?_
      refine il2 c209_27 ?_
      refine cv3 q209_28 (d208 hw rfl) rfl ?_
      refine cv2 q209_31 s362 rfl ?_
      refine is3 c209_34 rfl ?_
      refine il3 c209_35 ?_
      cases h
      exact r_ri c209_36 rt209 rfl rfl
