/-! THE METHODS AS FUNCTIONS OF THE MEMORY (written by dec.py) -/
def f324  (I : Nat → Nat → Int32) (J : Nat → Nat → Int64) : Option (Int32 × (Nat → Nat → Int32) × (Nat → Nat → Int64)) := pm_lt (pm_w I 127 0 0) (fun I1 => (if (I1 127 58) = 3 then some ((-1), I1, J) else (f325 (I1 127 58) 1 I1 J).bind (fun (v3, I4, J5) => pm_lt (pm_w I4 127 58 ((I4 127 58) + 1)) (fun I7 => some (I7 127 58, I7, J5)))))
theorem d324 {X : (Nat → Int32) × Nat} {d : Nat} {I : Nat → Nat → Int32} {J : Nat → Nat → Int64} {P : Nat → Nat → Value} {e r k r2 k2 : Nat}  {q : Int32 × (Nat → Nat → Int32) × (Nat → Nat → Int64)} (hw : pm_W P r k r2 k2)  (h : f324  I J = some q) : pm_Fn X (d + 2) 324 1 [.ref 127] (I, J, P, pm_T0, e) (.inl (some (.int q.1))) (q.2.1, q.2.2, P, pm_T0, e) := by
  obtain ⟨hp, hw1, hw2, hw3, hw4, hw5, hw6, hw7, hw8, hw9, hw10, hw11⟩ := id hw
  have hwa := hw5.1
  have hwb := hw6.1
  have hwc := hw7.1
  have hwd := hw8.1
  unfold f324 at h
  refine fn_v rc324 (c := 12) (nf := 59) (by first | rfl | assumption) ml324 rfl rfl rfl rfl ?_
  refine al0 c324_0 ?_
  refine r_ic c324_1 kI0 ?_
  refine w_pi p324_2 (by first | rfl | assumption) rfl ?_
  rw [pm_lt_eq] at h
  generalize pm_w I 127 0 0 = I1 at h ⊢
  refine al0 c324_5 ?_
  refine r_gi g324_6 (by first | rfl | assumption) rfl ?_
  refine r_ic c324_9 kI3 ?_
  refine r_icne (t := 15) c324_10 rfl (fun h2 => ?_) (fun h2 => ?_)
  · rw [if_neg h2] at h
    refine al0 c324_15 ?_
    refine al0 c324_16 ?_
    refine r_gi g324_17 (by first | rfl | assumption) rfl ?_
    refine r_ic c324_20 kI1 ?_
    obtain ⟨⟨v3, I4, J5⟩, e6, h⟩ := pm_bd_sp h
    dsimp only at h
    refine cz3 q324_21 (μ1 := (I4, J5, P, pm_T0, e)) (d325 hw e6) rfl ?_
    refine al0 c324_24 ?_
    refine r_dpr c324_25 ?_
    refine r_gi g324_26 (by first | rfl | assumption) rfl ?_
    refine r_ic c324_29 kI1 ?_
    refine r_iadd c324_30 ?_
    refine w_pi p324_31 (by first | rfl | assumption) rfl ?_
    rw [pm_lt_eq] at h
    generalize pm_w I4 127 58 ((I4 127 58) + 1) = I7 at h ⊢
    refine al0 c324_34 ?_
    refine r_gi g324_35 (by first | rfl | assumption) rfl ?_
    cases h
    exact r_ri c324_38 rt324 rfl rfl
  · rw [if_pos h2] at h
    refine r_ic c324_13 kIm1 ?_
    cases h
    exact r_ri c324_14 rt324 rfl rfl
def f327  (I : Nat → Nat → Int32) (J : Nat → Nat → Int64) : Option (Int32 × (Nat → Nat → Int32) × (Nat → Nat → Int64)) := pm_lt (pm_w I 127 0 0) (fun I1 => (if (I1 127 58) = 0 then some ((-1), I1, J) else pm_lt (pm_w I1 127 58 ((I1 127 58) - 1)) (fun I3 => (f325 (I3 127 58) 0 I3 J).bind (fun (v4, I5, J6) => pm_lt (pm_w I5 127 33 0) (fun I8 => some (I8 127 58, I8, J6))))))
theorem d327 {X : (Nat → Int32) × Nat} {d : Nat} {I : Nat → Nat → Int32} {J : Nat → Nat → Int64} {P : Nat → Nat → Value} {e r k r2 k2 : Nat}  {q : Int32 × (Nat → Nat → Int32) × (Nat → Nat → Int64)} (hw : pm_W P r k r2 k2)  (h : f327  I J = some q) : pm_Fn X (d + 2) 327 1 [.ref 127] (I, J, P, pm_T0, e) (.inl (some (.int q.1))) (q.2.1, q.2.2, P, pm_T0, e) := by
  obtain ⟨hp, hw1, hw2, hw3, hw4, hw5, hw6, hw7, hw8, hw9, hw10, hw11⟩ := id hw
  have hwa := hw5.1
  have hwb := hw6.1
  have hwc := hw7.1
  have hwd := hw8.1
  unfold f327 at h
  refine fn_v rc327 (c := 12) (nf := 59) (by first | rfl | assumption) ml327 rfl rfl rfl rfl ?_
  refine al0 c327_0 ?_
  refine r_ic c327_1 kI0 ?_
  refine w_pi p327_2 (by first | rfl | assumption) rfl ?_
  rw [pm_lt_eq] at h
  generalize pm_w I 127 0 0 = I1 at h ⊢
  refine al0 c327_5 ?_
  refine r_gi g327_6 (by first | rfl | assumption) rfl ?_
  refine r_ifne (t := 14) c327_9 rfl (fun h2 => ?_) (fun h2 => ?_)
  · rw [if_neg h2] at h
    refine al0 c327_14 ?_
    refine r_dpr c327_15 ?_
    refine r_gi g327_16 (by first | rfl | assumption) rfl ?_
    refine r_ic c327_19 kI1 ?_
    refine r_isub c327_20 ?_
    refine w_pi p327_21 (by first | rfl | assumption) rfl ?_
    rw [pm_lt_eq] at h
    generalize pm_w I1 127 58 ((I1 127 58) - 1) = I3 at h ⊢
    refine al0 c327_24 ?_
    refine al0 c327_25 ?_
    refine r_gi g327_26 (by first | rfl | assumption) rfl ?_
    refine r_ic c327_29 kI0 ?_
    obtain ⟨⟨v4, I5, J6⟩, e7, h⟩ := pm_bd_sp h
    dsimp only at h
    refine cz3 q327_30 (μ1 := (I5, J6, P, pm_T0, e)) (d325 hw e7) rfl ?_
    refine al0 c327_33 ?_
    refine r_ic c327_34 kI0 ?_
    refine w_pi p327_35 (by first | rfl | assumption) rfl ?_
    rw [pm_lt_eq] at h
    generalize pm_w I5 127 33 0 = I8 at h ⊢
    refine al0 c327_38 ?_
    refine r_gi g327_39 (by first | rfl | assumption) rfl ?_
    cases h
    exact r_ri c327_42 rt327 rfl rfl
  · rw [if_pos h2] at h
    refine r_ic c327_12 kIm1 ?_
    cases h
    exact r_ri c327_13 rt327 rfl rfl
def f328 (x1 : Int32) (I : Nat → Nat → Int32) (J : Nat → Nat → Int64) : Option (Int32 × (Nat → Nat → Int32) × (Nat → Nat → Int64)) := pm_lt (pm_w I 127 0 0) (fun I1 => (if (v241 x1 0 1 I1) = true then pm_gd (pm_in x1 2) (some (I1 128 (x1).toNatClampNeg, I1, J)) else some ((-1), I1, J)))
theorem d328 {X : (Nat → Int32) × Nat} {d : Nat} {I : Nat → Nat → Int32} {J : Nat → Nat → Int64} {P : Nat → Nat → Value} {e r k r2 k2 : Nat} {x1 : Int32} {q : Int32 × (Nat → Nat → Int32) × (Nat → Nat → Int64)} (hw : pm_W P r k r2 k2)  (h : f328 x1 I J = some q) : pm_Fn X (d + 1) 328 1 [.ref 127, .int x1] (I, J, P, pm_T0, e) (.inl (some (.int q.1))) (q.2.1, q.2.2, P, pm_T0, e) := by
  obtain ⟨hp, hw1, hw2, hw3, hw4, hw5, hw6, hw7, hw8, hw9, hw10, hw11⟩ := id hw
  have hwa := hw5.1
  have hwb := hw6.1
  have hwc := hw7.1
  have hwd := hw8.1
  unfold f328 at h
  refine fn_v rc328 (c := 12) (nf := 59) (by first | rfl | assumption) ml328 rfl rfl rfl rfl ?_
  refine al0 c328_0 ?_
  refine r_ic c328_1 kI0 ?_
  refine w_pi p328_2 (by first | rfl | assumption) rfl ?_
  rw [pm_lt_eq] at h
  generalize pm_w I 127 0 0 = I1 at h ⊢
  refine il1 c328_5 ?_
  refine r_ic c328_6 kI0 ?_
  refine r_ic c328_7 kI1 ?_
  refine cv3 q328_8 (d241 hw rfl) rfl ?_
  refine r_ifeq (t := 23) c328_11 rfl (fun h2 => ?_) (fun h2 => ?_)
  · rw [if_neg (pm_bf h2)] at h
    refine r_ic c328_23 kIm1 ?_
    cases h
    exact r_ri c328_24 rt328 rfl rfl
  · rw [if_pos (pm_bt h2)] at h
    refine al0 c328_14 ?_
    refine r_gr g328_15 (by first | rfl | assumption) rfl (by first | exact hp _ _ _ rfl | assumption) ?_
    refine il1 c328_18 ?_
    obtain ⟨g3, h⟩ := pm_gd_sp h
    refine w_ia c328_19 (by first | rfl | assumption) g3 ?_
    refine r_go (t := 24) c328_20 rfl ?_
    cases h
    exact r_ri c328_24 rt328 rfl rfl
def f329 (x1 : Int32) (I : Nat → Nat → Int32) (J : Nat → Nat → Int64) : Option (Int32 × (Nat → Nat → Int32) × (Nat → Nat → Int64)) := pm_lt (pm_w I 127 0 0) (fun I1 => (if x1 = 0 then some (I1 127 58, I1, J) else (if x1 = 1 then some (I1 127 2, I1, J) else (if x1 = 2 then some (I1 127 32, I1, J) else some ((-1), I1, J)))))
theorem d329 {X : (Nat → Int32) × Nat} {d : Nat} {I : Nat → Nat → Int32} {J : Nat → Nat → Int64} {P : Nat → Nat → Value} {e r k r2 k2 : Nat} {x1 : Int32} {q : Int32 × (Nat → Nat → Int32) × (Nat → Nat → Int64)} (hw : pm_W P r k r2 k2)  (h : f329 x1 I J = some q) : pm_Fn X (d) 329 1 [.ref 127, .int x1] (I, J, P, pm_T0, e) (.inl (some (.int q.1))) (q.2.1, q.2.2, P, pm_T0, e) := by
  obtain ⟨hp, hw1, hw2, hw3, hw4, hw5, hw6, hw7, hw8, hw9, hw10, hw11⟩ := id hw
  have hwa := hw5.1
  have hwb := hw6.1
  have hwc := hw7.1
  have hwd := hw8.1
  unfold f329 at h
  refine fn_v rc329 (c := 12) (nf := 59) (by first | rfl | assumption) ml329 rfl rfl rfl rfl ?_
  refine al0 c329_0 ?_
  refine r_ic c329_1 kI0 ?_
  refine w_pi p329_2 (by first | rfl | assumption) rfl ?_
  rw [pm_lt_eq] at h
  generalize pm_w I 127 0 0 = I1 at h ⊢
  refine il1 c329_5 ?_
  refine r_ifne (t := 16) c329_6 rfl (fun h2 => ?_) (fun h2 => ?_)
  · rw [if_neg h2] at h
    refine il1 c329_16 ?_
    refine r_ic c329_17 kI1 ?_
    refine r_icne (t := 28) c329_18 rfl (fun h3 => ?_) (fun h3 => ?_)
    · rw [if_neg h3] at h
      refine il1 c329_28 ?_
      refine r_ic c329_29 kI2 ?_
      refine r_icne (t := 40) c329_30 rfl (fun h4 => ?_) (fun h4 => ?_)
      · rw [if_neg h4] at h
        refine r_ic c329_40 kIm1 ?_
        cases h
        exact r_ri c329_41 rt329 rfl rfl
      · rw [if_pos h4] at h
        refine al0 c329_33 ?_
        refine r_gi g329_34 (by first | rfl | assumption) rfl ?_
        refine r_go (t := 41) c329_37 rfl ?_
        cases h
        exact r_ri c329_41 rt329 rfl rfl
    · rw [if_pos h3] at h
      refine al0 c329_21 ?_
      refine r_gi g329_22 (by first | rfl | assumption) rfl ?_
      refine r_go (t := 41) c329_25 rfl ?_
      cases h
      exact r_ri c329_41 rt329 rfl rfl
  · rw [if_pos h2] at h
    refine al0 c329_9 ?_
    refine r_gi g329_10 (by first | rfl | assumption) rfl ?_
    refine r_go (t := 41) c329_13 rfl ?_
    cases h
    exact r_ri c329_41 rt329 rfl rfl
