/-! THE METHODS AS FUNCTIONS OF THE MEMORY (written by dec.py) -/
def f77 (x1 : Int32) (I : Nat → Nat → Int32) (J : Nat → Nat → Int64) : Option (Int32 × (Nat → Nat → Int32) × (Nat → Nat → Int64)) := (if x1.toInt < 0 then some ((-1), I, J) else (if x1.toInt < (nI 8).toInt then pm_gd (pm_in x1 8) (some (v74 (I 106 (x1).toNatClampNeg) I, I, J)) else some ((-1), I, J)))
theorem d77 {X : (Nat → Int32) × Nat} {d : Nat} {I : Nat → Nat → Int32} {J : Nat → Nat → Int64} {P : Nat → Nat → Value} {e r k r2 k2 : Nat} {x1 : Int32} {q : Int32 × (Nat → Nat → Int32) × (Nat → Nat → Int64)} (hw : pm_W P r k r2 k2)  (h : f77 x1 I J = some q) : pm_Fn X (d + 2) 77 1 [.ref 104, .int x1] (I, J, P, pm_T0, e) (.inl (some (.int q.1))) (q.2.1, q.2.2, P, pm_T0, e) := by
  obtain ⟨hp, hw1, hw2, hw3, hw4, hw5, hw6, hw7, hw8, hw9, hw10, hw11⟩ := id hw
  have hwa := hw5.1
  have hwb := hw6.1
  have hwc := hw7.1
  have hwd := hw8.1
  unfold f77 at h
  refine fn_v rc77 (c := 4) (nf := 13) (by first | rfl | assumption) ml77 rfl rfl rfl rfl ?_
  refine il1 c77_0 ?_
  refine r_iflt (t := 26) c77_1 rfl (fun h1 => ?_) (fun h1 => ?_)
  · rw [if_pos h1] at h
    refine r_ic c77_26 kIm1 ?_
    cases h
    exact r_ri c77_27 rt77 rfl rfl
  · rw [if_neg (Int.not_lt.mpr h1)] at h
    refine il1 c77_4 ?_
    refine al0 c77_5 ?_
    refine r_gr g77_6 (by first | rfl | assumption) rfl (by first | exact hp _ _ _ rfl | assumption) ?_
    refine r_len c77_9 (by first | rfl | assumption) rfl ?_
    refine r_icge (t := 26) c77_10 rfl (fun h2 => ?_) (fun h2 => ?_)
    · rw [if_neg (Int.not_lt.mpr h2)] at h
      refine r_ic c77_26 kIm1 ?_
      cases h
      exact r_ri c77_27 rt77 rfl rfl
    · rw [if_pos h2] at h
      refine al0 c77_13 ?_
      refine al0 c77_14 ?_
      refine r_gr g77_15 (by first | rfl | assumption) rfl (by first | exact hp _ _ _ rfl | assumption) ?_
      refine il1 c77_18 ?_
      obtain ⟨g3, h⟩ := pm_gd_sp h
      refine w_ia c77_19 (by first | rfl | assumption) g3 ?_
      refine cv2 q77_20 (d74 hw rfl) rfl ?_
      refine r_go (t := 27) c77_23 rfl ?_
      cases h
      exact r_ri c77_27 rt77 rfl rfl
def f88  (I : Nat → Nat → Int32) (J : Nat → Nat → Int64) : Option (Int32 × (Nat → Nat → Int32) × (Nat → Nat → Int64)) := (f132 2 I J).bind (fun (v1, I2, J3) => (if v1 = true then some (0, I2, J3) else (f132 4 I2 J3).bind (fun (v6, I7, J8) => (if v6 = true then some (1, I7, J8) else (f132 6 I7 J8).bind (fun (v11, I12, J13) => (if v11 = true then some (2, I12, J13) else (f132 8 I12 J13).bind (fun (v16, I17, J18) => (if v16 = true then some (3, I17, J18) else (f132 10 I17 J18).bind (fun (v21, I22, J23) => (if v21 = true then some (4, I22, J23) else some ((-1), I22, J23)))))))))))
theorem d88 {X : (Nat → Int32) × Nat} {d : Nat} {I : Nat → Nat → Int32} {J : Nat → Nat → Int64} {P : Nat → Nat → Value} {e r k r2 k2 : Nat}  {q : Int32 × (Nat → Nat → Int32) × (Nat → Nat → Int64)} (hw : pm_W P r k r2 k2)  (h : f88  I J = some q) : pm_Fn X (d + 6) 88 0 [.ref 1] (I, J, P, pm_T0, e) (.inl (some (.int q.1))) (q.2.1, q.2.2, P, pm_T0, e) := by
  obtain ⟨hp, hw1, hw2, hw3, hw4, hw5, hw6, hw7, hw8, hw9, hw10, hw11⟩ := id hw
  have hwa := hw5.1
  have hwb := hw6.1
  have hwc := hw7.1
  have hwd := hw8.1
  unfold f88 at h
  refine fn_s ml88 rfl rfl rfl ?_
  refine al0 c88_0 ?_
  refine r_ks v88_1 ?_
  obtain ⟨⟨v1, I2, J3⟩, e4, h⟩ := pm_bd_sp h
  dsimp only at h
  refine cv2 q88_3 (v := .int (pm_bi v1)) (μ1 := (I2, J3, P, pm_T0, e)) (d132 hw (by first | rfl | assumption | decide) e4) rfl ?_
  refine r_ifeq (t := 11) c88_6 rfl (fun h5 => ?_) (fun h5 => ?_)
  · rw [if_neg (pm_bf h5)] at h
    refine al0 c88_11 ?_
    refine r_ks v88_12 ?_
    obtain ⟨⟨v6, I7, J8⟩, e9, h⟩ := pm_bd_sp h
    dsimp only at h
    refine cv2 q88_14 (v := .int (pm_bi v6)) (μ1 := (I7, J8, P, pm_T0, e)) (d132 hw (by first | rfl | assumption | decide) e9) rfl ?_
    refine r_ifeq (t := 22) c88_17 rfl (fun h10 => ?_) (fun h10 => ?_)
    · rw [if_neg (pm_bf h10)] at h
      refine al0 c88_22 ?_
      refine r_ks v88_23 ?_
      obtain ⟨⟨v11, I12, J13⟩, e14, h⟩ := pm_bd_sp h
      dsimp only at h
      refine cv2 q88_25 (v := .int (pm_bi v11)) (μ1 := (I12, J13, P, pm_T0, e)) (d132 hw (by first | rfl | assumption | decide) e14) rfl ?_
      refine r_ifeq (t := 33) c88_28 rfl (fun h15 => ?_) (fun h15 => ?_)
      · rw [if_neg (pm_bf h15)] at h
        refine al0 c88_33 ?_
        refine r_ks v88_34 ?_
        obtain ⟨⟨v16, I17, J18⟩, e19, h⟩ := pm_bd_sp h
        dsimp only at h
        refine cv2 q88_36 (v := .int (pm_bi v16)) (μ1 := (I17, J18, P, pm_T0, e)) (d132 hw (by first | rfl | assumption | decide) e19) rfl ?_
        refine r_ifeq (t := 44) c88_39 rfl (fun h20 => ?_) (fun h20 => ?_)
        · rw [if_neg (pm_bf h20)] at h
          refine al0 c88_44 ?_
          refine r_ks v88_45 ?_
          obtain ⟨⟨v21, I22, J23⟩, e24, h⟩ := pm_bd_sp h
          dsimp only at h
          refine cv2 q88_47 (v := .int (pm_bi v21)) (μ1 := (I22, J23, P, pm_T0, e)) (d132 hw (by first | rfl | assumption | decide) e24) rfl ?_
          refine r_ifeq (t := 57) c88_50 rfl (fun h25 => ?_) (fun h25 => ?_)
          · rw [if_neg (pm_bf h25)] at h
            refine r_ic c88_57 kIm1 ?_
            cases h
            exact r_ri c88_58 rt88 rfl rfl
          · rw [if_pos (pm_bt h25)] at h
            refine r_ic c88_53 kI4 ?_
            refine r_go (t := 58) c88_54 rfl ?_
            cases h
            exact r_ri c88_58 rt88 rfl rfl
        · rw [if_pos (pm_bt h20)] at h
          refine r_ic c88_42 kI3 ?_
          cases h
          exact r_ri c88_43 rt88 rfl rfl
      · rw [if_pos (pm_bt h15)] at h
        refine r_ic c88_31 kI2 ?_
        cases h
        exact r_ri c88_32 rt88 rfl rfl
    · rw [if_pos (pm_bt h10)] at h
      refine r_ic c88_20 kI1 ?_
      cases h
      exact r_ri c88_21 rt88 rfl rfl
  · rw [if_pos (pm_bt h5)] at h
    refine r_ic c88_9 kI0 ?_
    cases h
    exact r_ri c88_10 rt88 rfl rfl
def f89 (a0 : Nat) (I : Nat → Nat → Int32) (J : Nat → Nat → Int64) : Option (Unit × (Nat → Nat → Int32) × (Nat → Nat → Int64)) := (f134 1 9 I J).bind (fun (v1, I2, J3) => pm_lt (pm_pw I2 (a0 + 1) 8 (I a0 7) v1) (fun I5 => (f134 0 5 I5 J3).bind (fun (v6, I7, J8) => pm_lt (pm_pw I7 (a0 + 2) 8 (I5 a0 7) v6) (fun I10 => (f134 0 4 I10 J8).bind (fun (v11, I12, J13) => pm_lt (pm_pw I12 (a0 + 3) 8 (I10 a0 7) v11) (fun I15 => pm_lt (pm_pw I15 (a0 + 4) 8 (I15 a0 7) 0) (fun I16 => pm_lt (pm_w I16 a0 7 ((I16 a0 7) + 1)) (fun I17 => some ((), I17, J13)))))))))
theorem d89 {X : (Nat → Int32) × Nat} {d : Nat} {I : Nat → Nat → Int32} {J : Nat → Nat → Int64} {P : Nat → Nat → Value} {e r k r2 k2 : Nat} {a0 : Nat} {q : Unit × (Nat → Nat → Int32) × (Nat → Nat → Int64)} (hw : pm_W P r k r2 k2) (hy0 : pm_rgT P a0) (h : f89 a0 I J = some q) : pm_Fn X (d + 3) 89 1 [.ref a0, .ref 1] (I, J, P, pm_T0, e) (.inl none) (q.2.1, q.2.2, P, pm_T0, e) := by
  obtain ⟨hp, hw1, hw2, hw3, hw4, hw5, hw6, hw7, hw8, hw9, hw10, hw11⟩ := id hw
  have hwa := hw5.1
  have hwb := hw6.1
  have hwc := hw7.1
  have hwd := hw8.1
  obtain ⟨t0, ⟨t1, t2, t3, t4, t5, t6, t7⟩, u0, u1, u2, u3, u4, u5, u6⟩ := id hy0
  unfold f89 at h
  refine fn_v rc89 (c := 5) (nf := 11) (by first | rfl | assumption) ml89 rfl rfl rfl rfl ?_
  refine al0 c89_0 ?_
  refine r_gr g89_1 (by first | rfl | assumption) rfl (by first | exact hp _ _ _ rfl | assumption) ?_
  refine al0 c89_4 ?_
  refine r_gi g89_5 (by first | rfl | assumption) rfl ?_
  refine al1 c89_8 ?_
  refine r_ic c89_9 kI1 ?_
  refine r_bi c89_10 kB9 ?_
  obtain ⟨⟨v1, I2, J3⟩, e4, h⟩ := pm_bd_sp h
  dsimp only at h
  refine cv3 q89_12 (v := .int v1) (μ1 := (I2, J3, P, pm_T0, e)) (d134 hw e4) rfl ?_
  refine cz3 q89_15 (t159 (by first | rfl | assumption) (by first | decide | assumption)) rfl ?_
  rw [pm_lt_eq] at h
  generalize pm_pw I2 (a0 + 1) 8 (I a0 7) v1 = I5 at h ⊢
  refine al0 c89_18 ?_
  refine r_gr g89_19 (by first | rfl | assumption) rfl (by first | exact hp _ _ _ rfl | assumption) ?_
  refine al0 c89_22 ?_
  refine r_gi g89_23 (by first | rfl | assumption) rfl ?_
  refine al1 c89_26 ?_
  refine r_ic c89_27 kI0 ?_
  refine r_ic c89_28 kI5 ?_
  obtain ⟨⟨v6, I7, J8⟩, e9, h⟩ := pm_bd_sp h
  dsimp only at h
  refine cv3 q89_29 (v := .int v6) (μ1 := (I7, J8, P, pm_T0, e)) (d134 hw e9) rfl ?_
  refine cz3 q89_32 (t159 (by first | rfl | assumption) (by first | decide | assumption)) rfl ?_
  rw [pm_lt_eq] at h
  generalize pm_pw I7 (a0 + 2) 8 (I5 a0 7) v6 = I10 at h ⊢
  refine al0 c89_35 ?_
  refine r_gr g89_36 (by first | rfl | assumption) rfl (by first | exact hp _ _ _ rfl | assumption) ?_
  refine al0 c89_39 ?_
  refine r_gi g89_40 (by first | rfl | assumption) rfl ?_
  refine al1 c89_43 ?_
  refine r_ic c89_44 kI0 ?_
  refine r_ic c89_45 kI4 ?_
  obtain ⟨⟨v11, I12, J13⟩, e14, h⟩ := pm_bd_sp h
  dsimp only at h
  refine cv3 q89_46 (v := .int v11) (μ1 := (I12, J13, P, pm_T0, e)) (d134 hw e14) rfl ?_
  refine cz3 q89_49 (t159 (by first | rfl | assumption) (by first | decide | assumption)) rfl ?_
  rw [pm_lt_eq] at h
  generalize pm_pw I12 (a0 + 3) 8 (I10 a0 7) v11 = I15 at h ⊢
  refine al0 c89_52 ?_
  refine r_gr g89_53 (by first | rfl | assumption) rfl (by first | exact hp _ _ _ rfl | assumption) ?_
  refine al0 c89_56 ?_
  refine r_gi g89_57 (by first | rfl | assumption) rfl ?_
  refine r_ic c89_60 kI0 ?_
  refine cz3 q89_61 (t159 (by first | rfl | assumption) (by first | decide | assumption)) rfl ?_
  rw [pm_lt_eq] at h
  generalize pm_pw I15 (a0 + 4) 8 (I15 a0 7) 0 = I16 at h ⊢
  refine al0 c89_64 ?_
  refine r_dpr c89_65 ?_
  refine r_gi g89_66 (by first | rfl | assumption) rfl ?_
  refine r_ic c89_69 kI1 ?_
  refine r_iadd c89_70 ?_
  refine w_pi p89_71 (by first | rfl | assumption) rfl ?_
  rw [pm_lt_eq] at h
  generalize pm_w I16 a0 7 ((I16 a0 7) + 1) = I17 at h ⊢
  cases h
  exact r_rv c89_74 rt89 rfl
def f90 (a0 : Nat) (I : Nat → Nat → Int32) (J : Nat → Nat → Int64) : Option (Unit × (Nat → Nat → Int32) × (Nat → Nat → Int64)) := (f134 0 5 I J).bind (fun (v1, I2, J3) => pm_lt (pm_pw I2 (a0 + 5) 5 (I a0 8) v1) (fun I5 => (f134 1 40 I5 J3).bind (fun (v6, I7, J8) => pm_lt (pm_pw I7 (a0 + 6) 5 (I5 a0 8) v6) (fun I10 => (f134 1 4 I10 J8).bind (fun (v11, I12, J13) => pm_lt (pm_pw I12 (a0 + 7) 5 (I10 a0 8) v11) (fun I15 => pm_lt (pm_w I15 a0 8 ((I15 a0 8) + 1)) (fun I16 => some ((), I16, J13))))))))
theorem d90 {X : (Nat → Int32) × Nat} {d : Nat} {I : Nat → Nat → Int32} {J : Nat → Nat → Int64} {P : Nat → Nat → Value} {e r k r2 k2 : Nat} {a0 : Nat} {q : Unit × (Nat → Nat → Int32) × (Nat → Nat → Int64)} (hw : pm_W P r k r2 k2) (hy0 : pm_rgT P a0) (h : f90 a0 I J = some q) : pm_Fn X (d + 3) 90 1 [.ref a0, .ref 1] (I, J, P, pm_T0, e) (.inl none) (q.2.1, q.2.2, P, pm_T0, e) := by
  obtain ⟨hp, hw1, hw2, hw3, hw4, hw5, hw6, hw7, hw8, hw9, hw10, hw11⟩ := id hw
  have hwa := hw5.1
  have hwb := hw6.1
  have hwc := hw7.1
  have hwd := hw8.1
  obtain ⟨t0, ⟨t1, t2, t3, t4, t5, t6, t7⟩, u0, u1, u2, u3, u4, u5, u6⟩ := id hy0
  unfold f90 at h
  refine fn_v rc90 (c := 5) (nf := 11) (by first | rfl | assumption) ml90 rfl rfl rfl rfl ?_
  refine al0 c90_0 ?_
  refine r_gr g90_1 (by first | rfl | assumption) rfl (by first | exact hp _ _ _ rfl | assumption) ?_
  refine al0 c90_4 ?_
  refine r_gi g90_5 (by first | rfl | assumption) rfl ?_
  refine al1 c90_8 ?_
  refine r_ic c90_9 kI0 ?_
  refine r_ic c90_10 kI5 ?_
  obtain ⟨⟨v1, I2, J3⟩, e4, h⟩ := pm_bd_sp h
  dsimp only at h
  refine cv3 q90_11 (v := .int v1) (μ1 := (I2, J3, P, pm_T0, e)) (d134 hw e4) rfl ?_
  refine cz3 q90_14 (t159 (by first | rfl | assumption) (by first | decide | assumption)) rfl ?_
  rw [pm_lt_eq] at h
  generalize pm_pw I2 (a0 + 5) 5 (I a0 8) v1 = I5 at h ⊢
  refine al0 c90_17 ?_
  refine r_gr g90_18 (by first | rfl | assumption) rfl (by first | exact hp _ _ _ rfl | assumption) ?_
  refine al0 c90_21 ?_
  refine r_gi g90_22 (by first | rfl | assumption) rfl ?_
  refine al1 c90_25 ?_
  refine r_ic c90_26 kI1 ?_
  refine r_bi c90_27 kB40 ?_
  obtain ⟨⟨v6, I7, J8⟩, e9, h⟩ := pm_bd_sp h
  dsimp only at h
  refine cv3 q90_29 (v := .int v6) (μ1 := (I7, J8, P, pm_T0, e)) (d134 hw e9) rfl ?_
  refine cz3 q90_32 (t159 (by first | rfl | assumption) (by first | decide | assumption)) rfl ?_
  rw [pm_lt_eq] at h
  generalize pm_pw I7 (a0 + 6) 5 (I5 a0 8) v6 = I10 at h ⊢
  refine al0 c90_35 ?_
  refine r_gr g90_36 (by first | rfl | assumption) rfl (by first | exact hp _ _ _ rfl | assumption) ?_
  refine al0 c90_39 ?_
  refine r_gi g90_40 (by first | rfl | assumption) rfl ?_
  refine al1 c90_43 ?_
  refine r_ic c90_44 kI1 ?_
  refine r_ic c90_45 kI4 ?_
  obtain ⟨⟨v11, I12, J13⟩, e14, h⟩ := pm_bd_sp h
  dsimp only at h
  refine cv3 q90_46 (v := .int v11) (μ1 := (I12, J13, P, pm_T0, e)) (d134 hw e14) rfl ?_
  refine cz3 q90_49 (t159 (by first | rfl | assumption) (by first | decide | assumption)) rfl ?_
  rw [pm_lt_eq] at h
  generalize pm_pw I12 (a0 + 7) 5 (I10 a0 8) v11 = I15 at h ⊢
  refine al0 c90_52 ?_
  refine r_dpr c90_53 ?_
  refine r_gi g90_54 (by first | rfl | assumption) rfl ?_
  refine r_ic c90_57 kI1 ?_
  refine r_iadd c90_58 ?_
  refine w_pi p90_59 (by first | rfl | assumption) rfl ?_
  rw [pm_lt_eq] at h
  generalize pm_w I15 a0 8 ((I15 a0 8) + 1) = I16 at h ⊢
  cases h
  exact r_rv c90_62 rt90 rfl
def f91 (a0 : Nat) (I : Nat → Nat → Int32) (J : Nat → Nat → Int64) : Option (Unit × (Nat → Nat → Int32) × (Nat → Nat → Int64)) := (f134 0 ((I a0 7) - 1) I J).bind (fun (v1, I2, J3) => (f134 0 999 I2 J3).bind (fun (v5, I6, J7) => pm_lt (pm_pw I6 (a0 + 4) 8 v1 v5) (fun I9 => some ((), I9, J7))))
theorem d91 {X : (Nat → Int32) × Nat} {d : Nat} {I : Nat → Nat → Int32} {J : Nat → Nat → Int64} {P : Nat → Nat → Value} {e r k r2 k2 : Nat} {a0 : Nat} {q : Unit × (Nat → Nat → Int32) × (Nat → Nat → Int64)} (hw : pm_W P r k r2 k2) (hy0 : pm_rgT P a0) (h : f91 a0 I J = some q) : pm_Fn X (d + 3) 91 1 [.ref a0, .ref 1] (I, J, P, pm_T0, e) (.inl none) (q.2.1, q.2.2, P, pm_T0, e) := by
  obtain ⟨hp, hw1, hw2, hw3, hw4, hw5, hw6, hw7, hw8, hw9, hw10, hw11⟩ := id hw
  have hwa := hw5.1
  have hwb := hw6.1
  have hwc := hw7.1
  have hwd := hw8.1
  obtain ⟨t0, ⟨t1, t2, t3, t4, t5, t6, t7⟩, u0, u1, u2, u3, u4, u5, u6⟩ := id hy0
  unfold f91 at h
  refine fn_v rc91 (c := 5) (nf := 11) (by first | rfl | assumption) ml91 rfl rfl rfl rfl ?_
  refine al1 c91_0 ?_
  refine r_ic c91_1 kI0 ?_
  refine al0 c91_2 ?_
  refine r_gi g91_3 (by first | rfl | assumption) rfl ?_
  refine r_ic c91_6 kI1 ?_
  refine r_isub c91_7 ?_
  obtain ⟨⟨v1, I2, J3⟩, e4, h⟩ := pm_bd_sp h
  dsimp only at h
  refine cv3 q91_8 (v := .int v1) (μ1 := (I2, J3, P, pm_T0, e)) (d134 hw e4) rfl ?_
  refine is2 c91_11 rfl ?_
  refine al0 c91_12 ?_
  refine r_gr g91_13 (by first | rfl | assumption) rfl (by first | exact hp _ _ _ rfl | assumption) ?_
  refine il2 c91_16 ?_
  refine al1 c91_17 ?_
  refine r_ic c91_18 kI0 ?_
  refine r_si c91_19 kS999 ?_
  obtain ⟨⟨v5, I6, J7⟩, e8, h⟩ := pm_bd_sp h
  dsimp only at h
  refine cv3 q91_22 (v := .int v5) (μ1 := (I6, J7, P, pm_T0, e)) (d134 hw e8) rfl ?_
  refine cz3 q91_25 (t159 (by first | rfl | assumption) (by first | decide | assumption)) rfl ?_
  rw [pm_lt_eq] at h
  generalize pm_pw I6 (a0 + 4) 8 v1 v5 = I9 at h ⊢
  cases h
  exact r_rv c91_28 rt91 rfl
def f87 (a0 : Nat) (x2 : Int32) (I : Nat → Nat → Int32) (J : Nat → Nat → Int64) : Option (Unit × (Nat → Nat → Int32) × (Nat → Nat → Int64)) := (f88  I J).bind (fun (v1, I2, J3) => (if v1 = (-1) then (f133 1 I2 J3).bind (fun (v229, I230, J231) => some ((), I230, J231)) else (if x2 = 0 then (if v1 = 0 then (if (I2 a0 7).toInt < (8 : Int32).toInt then (if v1 = 1 then (if (I2 a0 8).toInt < (5 : Int32).toInt then (f128  I2 J3).bind (fun (v175, I176, J177) => (if v1 = 0 then (f89 a0 I176 J177).bind (fun (v180, I181, J182) => (f135 59 I181 J182).bind (fun (v184, I185, J186) => some ((), I185, J186))) else if v1 = 1 then (f90 a0 I176 J177).bind (fun (v189, I190, J191) => (f135 59 I190 J191).bind (fun (v193, I194, J195) => some ((), I194, J195))) else if v1 = 2 then (f91 a0 I176 J177).bind (fun (v198, I199, J200) => (f135 59 I199 J200).bind (fun (v202, I203, J204) => some ((), I203, J204))) else if v1 = 3 then (f134 0 400 I176 J177).bind (fun (v207, I208, J209) => pm_lt (pm_w I208 a0 9 v207) (fun I211 => (f135 59 I211 J209).bind (fun (v212, I213, J214) => some ((), I213, J214)))) else (f134 0 20 I176 J177).bind (fun (v216, I217, J218) => pm_lt (pm_w I217 a0 10 v216) (fun I220 => (f135 59 I220 J218).bind (fun (v221, I222, J223) => some ((), I222, J223)))))) else (f133 3 I2 J3).bind (fun (v225, I226, J227) => some ((), I226, J227))) else (f128  I2 J3).bind (fun (v124, I125, J126) => (if v1 = 0 then (f89 a0 I125 J126).bind (fun (v129, I130, J131) => (f135 59 I130 J131).bind (fun (v133, I134, J135) => some ((), I134, J135))) else if v1 = 1 then (f90 a0 I125 J126).bind (fun (v138, I139, J140) => (f135 59 I139 J140).bind (fun (v142, I143, J144) => some ((), I143, J144))) else if v1 = 2 then (f91 a0 I125 J126).bind (fun (v147, I148, J149) => (f135 59 I148 J149).bind (fun (v151, I152, J153) => some ((), I152, J153))) else if v1 = 3 then (f134 0 400 I125 J126).bind (fun (v156, I157, J158) => pm_lt (pm_w I157 a0 9 v156) (fun I160 => (f135 59 I160 J158).bind (fun (v161, I162, J163) => some ((), I162, J163)))) else (f134 0 20 I125 J126).bind (fun (v165, I166, J167) => pm_lt (pm_w I166 a0 10 v165) (fun I169 => (f135 59 I169 J167).bind (fun (v170, I171, J172) => some ((), I171, J172))))))) else (f133 3 I2 J3).bind (fun (v119, I120, J121) => some ((), I120, J121))) else (if v1 = 1 then (if (I2 a0 8).toInt < (5 : Int32).toInt then (f128  I2 J3).bind (fun (v64, I65, J66) => (if v1 = 0 then (f89 a0 I65 J66).bind (fun (v69, I70, J71) => (f135 59 I70 J71).bind (fun (v73, I74, J75) => some ((), I74, J75))) else if v1 = 1 then (f90 a0 I65 J66).bind (fun (v78, I79, J80) => (f135 59 I79 J80).bind (fun (v82, I83, J84) => some ((), I83, J84))) else if v1 = 2 then (f91 a0 I65 J66).bind (fun (v87, I88, J89) => (f135 59 I88 J89).bind (fun (v91, I92, J93) => some ((), I92, J93))) else if v1 = 3 then (f134 0 400 I65 J66).bind (fun (v96, I97, J98) => pm_lt (pm_w I97 a0 9 v96) (fun I100 => (f135 59 I100 J98).bind (fun (v101, I102, J103) => some ((), I102, J103)))) else (f134 0 20 I65 J66).bind (fun (v105, I106, J107) => pm_lt (pm_w I106 a0 10 v105) (fun I109 => (f135 59 I109 J107).bind (fun (v110, I111, J112) => some ((), I111, J112)))))) else (f133 3 I2 J3).bind (fun (v114, I115, J116) => some ((), I115, J116))) else (f128  I2 J3).bind (fun (v13, I14, J15) => (if v1 = 0 then (f89 a0 I14 J15).bind (fun (v18, I19, J20) => (f135 59 I19 J20).bind (fun (v22, I23, J24) => some ((), I23, J24))) else if v1 = 1 then (f90 a0 I14 J15).bind (fun (v27, I28, J29) => (f135 59 I28 J29).bind (fun (v31, I32, J33) => some ((), I32, J33))) else if v1 = 2 then (f91 a0 I14 J15).bind (fun (v36, I37, J38) => (f135 59 I37 J38).bind (fun (v40, I41, J42) => some ((), I41, J42))) else if v1 = 3 then (f134 0 400 I14 J15).bind (fun (v45, I46, J47) => pm_lt (pm_w I46 a0 9 v45) (fun I49 => (f135 59 I49 J47).bind (fun (v50, I51, J52) => some ((), I51, J52)))) else (f134 0 20 I14 J15).bind (fun (v54, I55, J56) => pm_lt (pm_w I55 a0 10 v54) (fun I58 => (f135 59 I58 J56).bind (fun (v59, I60, J61) => some ((), I60, J61)))))))) else (f133 3 I2 J3).bind (fun (v7, I8, J9) => some ((), I8, J9)))))
theorem d87 {X : (Nat → Int32) × Nat} {d : Nat} {I : Nat → Nat → Int32} {J : Nat → Nat → Int64} {P : Nat → Nat → Value} {e r k r2 k2 : Nat} {a0 : Nat} {x2 : Int32} {q : Unit × (Nat → Nat → Int32) × (Nat → Nat → Int64)} (hw : pm_W P r k r2 k2) (hy0 : pm_rgT P a0) (h : f87 a0 x2 I J = some q) : pm_Fn X (d + 7) 87 1 [.ref a0, .ref 1, .int x2] (I, J, P, pm_T0, e) (.inl none) (q.2.1, q.2.2, P, pm_T0, e) := by
  obtain ⟨hp, hw1, hw2, hw3, hw4, hw5, hw6, hw7, hw8, hw9, hw10, hw11⟩ := id hw
  have hwa := hw5.1
  have hwb := hw6.1
  have hwc := hw7.1
  have hwd := hw8.1
  obtain ⟨t0, ⟨t1, t2, t3, t4, t5, t6, t7⟩, u0, u1, u2, u3, u4, u5, u6⟩ := id hy0
  unfold f87 at h
  refine fn_v rc87 (c := 5) (nf := 11) (by first | rfl | assumption) ml87 rfl rfl rfl rfl ?_
  refine al1 c87_0 ?_
  obtain ⟨⟨v1, I2, J3⟩, e4, h⟩ := pm_bd_sp h
  dsimp only at h
  refine cv1 q87_1 (v := .int v1) (μ1 := (I2, J3, P, pm_T0, e)) (d88 hw e4) rfl ?_
  refine is3 c87_4 rfl ?_
  refine il3 c87_5 ?_
  refine r_ic c87_6 kIm1 ?_
  refine r_icne (t := 16) c87_7 rfl (fun h5 => ?_) (fun h5 => ?_)
  · rw [if_neg h5] at h
    refine il2 c87_16 ?_
    refine r_ifne (t := 46) c87_17 rfl (fun h6 => ?_) (fun h6 => ?_)
    · rw [if_neg h6] at h
      refine al1 c87_46 ?_
      refine r_ic c87_47 kI3 ?_
      obtain ⟨⟨v7, I8, J9⟩, e10, h⟩ := pm_bd_sp h
      dsimp only at h
      refine cz2 q87_48 (μ1 := (I8, J9, P, pm_T0, e)) (d133 hw e10) rfl ?_
      cases h
      exact r_rv c87_51 rt87 rfl
    · rw [if_pos h6] at h
      refine il3 c87_20 ?_
      refine r_ifne (t := 33) c87_21 rfl (fun h11 => ?_) (fun h11 => ?_)
      · rw [if_neg h11] at h
        refine il3 c87_33 ?_
        refine r_ic c87_34 kI1 ?_
        refine r_icne (t := 52) c87_35 rfl (fun h12 => ?_) (fun h12 => ?_)
        · rw [if_neg h12] at h
          refine al1 c87_52 ?_
          obtain ⟨⟨v13, I14, J15⟩, e16, h⟩ := pm_bd_sp h
          dsimp only at h
          refine cz1 q87_53 (μ1 := (I14, J15, P, pm_T0, e)) (d128 hw e16) rfl ?_
          refine il3 c87_56 ?_
          by_cases h17 : v1 = 0
          · rw [if_pos h17] at h
            refine r_ts (t := 88) (o := 31) c87_57 (by rw [h17]; decide) rfl ?_
            refine al0 c87_88 ?_
            refine al1 c87_89 ?_
            obtain ⟨⟨v18, I19, J20⟩, e21, h⟩ := pm_bd_sp h
            dsimp only at h
            refine cz2 q87_90 (μ1 := (I19, J20, P, pm_T0, e)) (d89 hw (by first | rfl | assumption | decide) e21) rfl ?_
            refine r_go (t := 138) c87_93 rfl ?_
            refine al1 c87_138 ?_
            refine r_bi c87_139 kB59 ?_
            obtain ⟨⟨v22, I23, J24⟩, e25, h⟩ := pm_bd_sp h
            dsimp only at h
            refine cz2 q87_141 (μ1 := (I23, J24, P, pm_T0, e)) (d135 hw e25) rfl ?_
            cases h
            exact r_rv c87_144 rt87 rfl
          · rw [if_neg h17] at h
            by_cases h26 : v1 = 1
            · rw [if_pos h26] at h
              refine r_ts (t := 96) (o := 39) c87_57 (by rw [h26]; decide) rfl ?_
              refine al0 c87_96 ?_
              refine al1 c87_97 ?_
              obtain ⟨⟨v27, I28, J29⟩, e30, h⟩ := pm_bd_sp h
              dsimp only at h
              refine cz2 q87_98 (μ1 := (I28, J29, P, pm_T0, e)) (d90 hw (by first | rfl | assumption | decide) e30) rfl ?_
              refine r_go (t := 138) c87_101 rfl ?_
              refine al1 c87_138 ?_
              refine r_bi c87_139 kB59 ?_
              obtain ⟨⟨v31, I32, J33⟩, e34, h⟩ := pm_bd_sp h
              dsimp only at h
              refine cz2 q87_141 (μ1 := (I32, J33, P, pm_T0, e)) (d135 hw e34) rfl ?_
              cases h
              exact r_rv c87_144 rt87 rfl
            · rw [if_neg h26] at h
              by_cases h35 : v1 = 2
              · rw [if_pos h35] at h
                refine r_ts (t := 104) (o := 47) c87_57 (by rw [h35]; decide) rfl ?_
                refine al0 c87_104 ?_
                refine al1 c87_105 ?_
                obtain ⟨⟨v36, I37, J38⟩, e39, h⟩ := pm_bd_sp h
                dsimp only at h
                refine cz2 q87_106 (μ1 := (I37, J38, P, pm_T0, e)) (d91 hw (by first | rfl | assumption | decide) e39) rfl ?_
                refine r_go (t := 138) c87_109 rfl ?_
                refine al1 c87_138 ?_
                refine r_bi c87_139 kB59 ?_
                obtain ⟨⟨v40, I41, J42⟩, e43, h⟩ := pm_bd_sp h
                dsimp only at h
                refine cz2 q87_141 (μ1 := (I41, J42, P, pm_T0, e)) (d135 hw e43) rfl ?_
                cases h
                exact r_rv c87_144 rt87 rfl
              · rw [if_neg h35] at h
                by_cases h44 : v1 = 3
                · rw [if_pos h44] at h
                  refine r_ts (t := 112) (o := 55) c87_57 (by rw [h44]; decide) rfl ?_
                  refine al0 c87_112 ?_
                  refine al1 c87_113 ?_
                  refine r_ic c87_114 kI0 ?_
                  refine r_si c87_115 kS400 ?_
                  obtain ⟨⟨v45, I46, J47⟩, e48, h⟩ := pm_bd_sp h
                  dsimp only at h
                  refine cv3 q87_118 (v := .int v45) (μ1 := (I46, J47, P, pm_T0, e)) (d134 hw e48) rfl ?_
                  refine w_pi p87_121 (by first | rfl | assumption) rfl ?_
                  rw [pm_lt_eq] at h
                  generalize pm_w I46 a0 9 v45 = I49 at h ⊢
                  refine r_go (t := 138) c87_124 rfl ?_
                  refine al1 c87_138 ?_
                  refine r_bi c87_139 kB59 ?_
                  obtain ⟨⟨v50, I51, J52⟩, e53, h⟩ := pm_bd_sp h
                  dsimp only at h
                  refine cz2 q87_141 (μ1 := (I51, J52, P, pm_T0, e)) (d135 hw e53) rfl ?_
                  cases h
                  exact r_rv c87_144 rt87 rfl
                · rw [if_neg h44] at h
                  refine r_ts (t := 127) (o := 70) c87_57 (pm_tsd v1 [0, 1, 2, 3] (by decide) (by intro v hv; simp only [List.mem_cons, List.not_mem_nil, or_false] at hv; rcases hv with rfl | rfl | rfl | rfl <;> assumption)) rfl ?_
                  refine al0 c87_127 ?_
                  refine al1 c87_128 ?_
                  refine r_ic c87_129 kI0 ?_
                  refine r_bi c87_130 kB20 ?_
                  obtain ⟨⟨v54, I55, J56⟩, e57, h⟩ := pm_bd_sp h
                  dsimp only at h
                  refine cv3 q87_132 (v := .int v54) (μ1 := (I55, J56, P, pm_T0, e)) (d134 hw e57) rfl ?_
                  refine w_pi p87_135 (by first | rfl | assumption) rfl ?_
                  rw [pm_lt_eq] at h
                  generalize pm_w I55 a0 10 v54 = I58 at h ⊢
                  refine al1 c87_138 ?_
                  refine r_bi c87_139 kB59 ?_
                  obtain ⟨⟨v59, I60, J61⟩, e62, h⟩ := pm_bd_sp h
                  dsimp only at h
                  refine cz2 q87_141 (μ1 := (I60, J61, P, pm_T0, e)) (d135 hw e62) rfl ?_
                  cases h
                  exact r_rv c87_144 rt87 rfl
        · rw [if_pos h12] at h
          refine al0 c87_38 ?_
          refine r_gi g87_39 (by first | rfl | assumption) rfl ?_
          refine r_ic c87_42 kI5 ?_
          refine r_iclt (t := 52) c87_43 rfl (fun h63 => ?_) (fun h63 => ?_)
          · rw [if_pos h63] at h
            refine al1 c87_52 ?_
            obtain ⟨⟨v64, I65, J66⟩, e67, h⟩ := pm_bd_sp h
            dsimp only at h
            refine cz1 q87_53 (μ1 := (I65, J66, P, pm_T0, e)) (d128 hw e67) rfl ?_
            refine il3 c87_56 ?_
            by_cases h68 : v1 = 0
            · rw [if_pos h68] at h
              refine r_ts (t := 88) (o := 31) c87_57 (by rw [h68]; decide) rfl ?_
              refine al0 c87_88 ?_
              refine al1 c87_89 ?_
              obtain ⟨⟨v69, I70, J71⟩, e72, h⟩ := pm_bd_sp h
              dsimp only at h
              refine cz2 q87_90 (μ1 := (I70, J71, P, pm_T0, e)) (d89 hw (by first | rfl | assumption | decide) e72) rfl ?_
              refine r_go (t := 138) c87_93 rfl ?_
              refine al1 c87_138 ?_
              refine r_bi c87_139 kB59 ?_
              obtain ⟨⟨v73, I74, J75⟩, e76, h⟩ := pm_bd_sp h
              dsimp only at h
              refine cz2 q87_141 (μ1 := (I74, J75, P, pm_T0, e)) (d135 hw e76) rfl ?_
              cases h
              exact r_rv c87_144 rt87 rfl
            · rw [if_neg h68] at h
              by_cases h77 : v1 = 1
              · rw [if_pos h77] at h
                refine r_ts (t := 96) (o := 39) c87_57 (by rw [h77]; decide) rfl ?_
                refine al0 c87_96 ?_
                refine al1 c87_97 ?_
                obtain ⟨⟨v78, I79, J80⟩, e81, h⟩ := pm_bd_sp h
                dsimp only at h
                refine cz2 q87_98 (μ1 := (I79, J80, P, pm_T0, e)) (d90 hw (by first | rfl | assumption | decide) e81) rfl ?_
                refine r_go (t := 138) c87_101 rfl ?_
                refine al1 c87_138 ?_
                refine r_bi c87_139 kB59 ?_
                obtain ⟨⟨v82, I83, J84⟩, e85, h⟩ := pm_bd_sp h
                dsimp only at h
                refine cz2 q87_141 (μ1 := (I83, J84, P, pm_T0, e)) (d135 hw e85) rfl ?_
                cases h
                exact r_rv c87_144 rt87 rfl
              · rw [if_neg h77] at h
                by_cases h86 : v1 = 2
                · rw [if_pos h86] at h
                  refine r_ts (t := 104) (o := 47) c87_57 (by rw [h86]; decide) rfl ?_
                  refine al0 c87_104 ?_
                  refine al1 c87_105 ?_
                  obtain ⟨⟨v87, I88, J89⟩, e90, h⟩ := pm_bd_sp h
                  dsimp only at h
                  refine cz2 q87_106 (μ1 := (I88, J89, P, pm_T0, e)) (d91 hw (by first | rfl | assumption | decide) e90) rfl ?_
                  refine r_go (t := 138) c87_109 rfl ?_
                  refine al1 c87_138 ?_
                  refine r_bi c87_139 kB59 ?_
                  obtain ⟨⟨v91, I92, J93⟩, e94, h⟩ := pm_bd_sp h
                  dsimp only at h
                  refine cz2 q87_141 (μ1 := (I92, J93, P, pm_T0, e)) (d135 hw e94) rfl ?_
                  cases h
                  exact r_rv c87_144 rt87 rfl
                · rw [if_neg h86] at h
                  by_cases h95 : v1 = 3
                  · rw [if_pos h95] at h
                    refine r_ts (t := 112) (o := 55) c87_57 (by rw [h95]; decide) rfl ?_
                    refine al0 c87_112 ?_
                    refine al1 c87_113 ?_
                    refine r_ic c87_114 kI0 ?_
                    refine r_si c87_115 kS400 ?_
                    obtain ⟨⟨v96, I97, J98⟩, e99, h⟩ := pm_bd_sp h
                    dsimp only at h
                    refine cv3 q87_118 (v := .int v96) (μ1 := (I97, J98, P, pm_T0, e)) (d134 hw e99) rfl ?_
                    refine w_pi p87_121 (by first | rfl | assumption) rfl ?_
                    rw [pm_lt_eq] at h
                    generalize pm_w I97 a0 9 v96 = I100 at h ⊢
                    refine r_go (t := 138) c87_124 rfl ?_
                    refine al1 c87_138 ?_
                    refine r_bi c87_139 kB59 ?_
                    obtain ⟨⟨v101, I102, J103⟩, e104, h⟩ := pm_bd_sp h
                    dsimp only at h
                    refine cz2 q87_141 (μ1 := (I102, J103, P, pm_T0, e)) (d135 hw e104) rfl ?_
                    cases h
                    exact r_rv c87_144 rt87 rfl
                  · rw [if_neg h95] at h
                    refine r_ts (t := 127) (o := 70) c87_57 (pm_tsd v1 [0, 1, 2, 3] (by decide) (by intro v hv; simp only [List.mem_cons, List.not_mem_nil, or_false] at hv; rcases hv with rfl | rfl | rfl | rfl <;> assumption)) rfl ?_
                    refine al0 c87_127 ?_
                    refine al1 c87_128 ?_
                    refine r_ic c87_129 kI0 ?_
                    refine r_bi c87_130 kB20 ?_
                    obtain ⟨⟨v105, I106, J107⟩, e108, h⟩ := pm_bd_sp h
                    dsimp only at h
                    refine cv3 q87_132 (v := .int v105) (μ1 := (I106, J107, P, pm_T0, e)) (d134 hw e108) rfl ?_
                    refine w_pi p87_135 (by first | rfl | assumption) rfl ?_
                    rw [pm_lt_eq] at h
                    generalize pm_w I106 a0 10 v105 = I109 at h ⊢
                    refine al1 c87_138 ?_
                    refine r_bi c87_139 kB59 ?_
                    obtain ⟨⟨v110, I111, J112⟩, e113, h⟩ := pm_bd_sp h
                    dsimp only at h
                    refine cz2 q87_141 (μ1 := (I111, J112, P, pm_T0, e)) (d135 hw e113) rfl ?_
                    cases h
                    exact r_rv c87_144 rt87 rfl
          · rw [if_neg (Int.not_lt.mpr h63)] at h
            refine al1 c87_46 ?_
            refine r_ic c87_47 kI3 ?_
            obtain ⟨⟨v114, I115, J116⟩, e117, h⟩ := pm_bd_sp h
            dsimp only at h
            refine cz2 q87_48 (μ1 := (I115, J116, P, pm_T0, e)) (d133 hw e117) rfl ?_
            cases h
            exact r_rv c87_51 rt87 rfl
      · rw [if_pos h11] at h
        refine al0 c87_24 ?_
        refine r_gi g87_25 (by first | rfl | assumption) rfl ?_
        refine r_bi c87_28 kB8 ?_
        refine r_icge (t := 46) c87_30 rfl (fun h118 => ?_) (fun h118 => ?_)
        · rw [if_neg (Int.not_lt.mpr h118)] at h
          refine al1 c87_46 ?_
          refine r_ic c87_47 kI3 ?_
          obtain ⟨⟨v119, I120, J121⟩, e122, h⟩ := pm_bd_sp h
          dsimp only at h
          refine cz2 q87_48 (μ1 := (I120, J121, P, pm_T0, e)) (d133 hw e122) rfl ?_
          cases h
          exact r_rv c87_51 rt87 rfl
        · rw [if_pos h118] at h
          refine il3 c87_33 ?_
          refine r_ic c87_34 kI1 ?_
          refine r_icne (t := 52) c87_35 rfl (fun h123 => ?_) (fun h123 => ?_)
          · rw [if_neg h123] at h
            refine al1 c87_52 ?_
            obtain ⟨⟨v124, I125, J126⟩, e127, h⟩ := pm_bd_sp h
            dsimp only at h
            refine cz1 q87_53 (μ1 := (I125, J126, P, pm_T0, e)) (d128 hw e127) rfl ?_
            refine il3 c87_56 ?_
            by_cases h128 : v1 = 0
            · rw [if_pos h128] at h
              refine r_ts (t := 88) (o := 31) c87_57 (by rw [h128]; decide) rfl ?_
              refine al0 c87_88 ?_
              refine al1 c87_89 ?_
              obtain ⟨⟨v129, I130, J131⟩, e132, h⟩ := pm_bd_sp h
              dsimp only at h
              refine cz2 q87_90 (μ1 := (I130, J131, P, pm_T0, e)) (d89 hw (by first | rfl | assumption | decide) e132) rfl ?_
              refine r_go (t := 138) c87_93 rfl ?_
              refine al1 c87_138 ?_
              refine r_bi c87_139 kB59 ?_
              obtain ⟨⟨v133, I134, J135⟩, e136, h⟩ := pm_bd_sp h
              dsimp only at h
              refine cz2 q87_141 (μ1 := (I134, J135, P, pm_T0, e)) (d135 hw e136) rfl ?_
              cases h
              exact r_rv c87_144 rt87 rfl
            · rw [if_neg h128] at h
              by_cases h137 : v1 = 1
              · rw [if_pos h137] at h
                refine r_ts (t := 96) (o := 39) c87_57 (by rw [h137]; decide) rfl ?_
                refine al0 c87_96 ?_
                refine al1 c87_97 ?_
                obtain ⟨⟨v138, I139, J140⟩, e141, h⟩ := pm_bd_sp h
                dsimp only at h
                refine cz2 q87_98 (μ1 := (I139, J140, P, pm_T0, e)) (d90 hw (by first | rfl | assumption | decide) e141) rfl ?_
                refine r_go (t := 138) c87_101 rfl ?_
                refine al1 c87_138 ?_
                refine r_bi c87_139 kB59 ?_
                obtain ⟨⟨v142, I143, J144⟩, e145, h⟩ := pm_bd_sp h
                dsimp only at h
                refine cz2 q87_141 (μ1 := (I143, J144, P, pm_T0, e)) (d135 hw e145) rfl ?_
                cases h
                exact r_rv c87_144 rt87 rfl
              · rw [if_neg h137] at h
                by_cases h146 : v1 = 2
                · rw [if_pos h146] at h
                  refine r_ts (t := 104) (o := 47) c87_57 (by rw [h146]; decide) rfl ?_
                  refine al0 c87_104 ?_
                  refine al1 c87_105 ?_
                  obtain ⟨⟨v147, I148, J149⟩, e150, h⟩ := pm_bd_sp h
                  dsimp only at h
                  refine cz2 q87_106 (μ1 := (I148, J149, P, pm_T0, e)) (d91 hw (by first | rfl | assumption | decide) e150) rfl ?_
                  refine r_go (t := 138) c87_109 rfl ?_
                  refine al1 c87_138 ?_
                  refine r_bi c87_139 kB59 ?_
                  obtain ⟨⟨v151, I152, J153⟩, e154, h⟩ := pm_bd_sp h
                  dsimp only at h
                  refine cz2 q87_141 (μ1 := (I152, J153, P, pm_T0, e)) (d135 hw e154) rfl ?_
                  cases h
                  exact r_rv c87_144 rt87 rfl
                · rw [if_neg h146] at h
                  by_cases h155 : v1 = 3
                  · rw [if_pos h155] at h
                    refine r_ts (t := 112) (o := 55) c87_57 (by rw [h155]; decide) rfl ?_
                    refine al0 c87_112 ?_
                    refine al1 c87_113 ?_
                    refine r_ic c87_114 kI0 ?_
                    refine r_si c87_115 kS400 ?_
                    obtain ⟨⟨v156, I157, J158⟩, e159, h⟩ := pm_bd_sp h
                    dsimp only at h
                    refine cv3 q87_118 (v := .int v156) (μ1 := (I157, J158, P, pm_T0, e)) (d134 hw e159) rfl ?_
                    refine w_pi p87_121 (by first | rfl | assumption) rfl ?_
                    rw [pm_lt_eq] at h
                    generalize pm_w I157 a0 9 v156 = I160 at h ⊢
                    refine r_go (t := 138) c87_124 rfl ?_
                    refine al1 c87_138 ?_
                    refine r_bi c87_139 kB59 ?_
                    obtain ⟨⟨v161, I162, J163⟩, e164, h⟩ := pm_bd_sp h
                    dsimp only at h
                    refine cz2 q87_141 (μ1 := (I162, J163, P, pm_T0, e)) (d135 hw e164) rfl ?_
                    cases h
                    exact r_rv c87_144 rt87 rfl
                  · rw [if_neg h155] at h
                    refine r_ts (t := 127) (o := 70) c87_57 (pm_tsd v1 [0, 1, 2, 3] (by decide) (by intro v hv; simp only [List.mem_cons, List.not_mem_nil, or_false] at hv; rcases hv with rfl | rfl | rfl | rfl <;> assumption)) rfl ?_
                    refine al0 c87_127 ?_
                    refine al1 c87_128 ?_
                    refine r_ic c87_129 kI0 ?_
                    refine r_bi c87_130 kB20 ?_
                    obtain ⟨⟨v165, I166, J167⟩, e168, h⟩ := pm_bd_sp h
                    dsimp only at h
                    refine cv3 q87_132 (v := .int v165) (μ1 := (I166, J167, P, pm_T0, e)) (d134 hw e168) rfl ?_
                    refine w_pi p87_135 (by first | rfl | assumption) rfl ?_
                    rw [pm_lt_eq] at h
                    generalize pm_w I166 a0 10 v165 = I169 at h ⊢
                    refine al1 c87_138 ?_
                    refine r_bi c87_139 kB59 ?_
                    obtain ⟨⟨v170, I171, J172⟩, e173, h⟩ := pm_bd_sp h
                    dsimp only at h
                    refine cz2 q87_141 (μ1 := (I171, J172, P, pm_T0, e)) (d135 hw e173) rfl ?_
                    cases h
                    exact r_rv c87_144 rt87 rfl
          · rw [if_pos h123] at h
            refine al0 c87_38 ?_
            refine r_gi g87_39 (by first | rfl | assumption) rfl ?_
            refine r_ic c87_42 kI5 ?_
            refine r_iclt (t := 52) c87_43 rfl (fun h174 => ?_) (fun h174 => ?_)
            · rw [if_pos h174] at h
              refine al1 c87_52 ?_
              obtain ⟨⟨v175, I176, J177⟩, e178, h⟩ := pm_bd_sp h
              dsimp only at h
              refine cz1 q87_53 (μ1 := (I176, J177, P, pm_T0, e)) (d128 hw e178) rfl ?_
              refine il3 c87_56 ?_
              by_cases h179 : v1 = 0
              · rw [if_pos h179] at h
                refine r_ts (t := 88) (o := 31) c87_57 (by rw [h179]; decide) rfl ?_
                refine al0 c87_88 ?_
                refine al1 c87_89 ?_
                obtain ⟨⟨v180, I181, J182⟩, e183, h⟩ := pm_bd_sp h
                dsimp only at h
                refine cz2 q87_90 (μ1 := (I181, J182, P, pm_T0, e)) (d89 hw (by first | rfl | assumption | decide) e183) rfl ?_
                refine r_go (t := 138) c87_93 rfl ?_
                refine al1 c87_138 ?_
                refine r_bi c87_139 kB59 ?_
                obtain ⟨⟨v184, I185, J186⟩, e187, h⟩ := pm_bd_sp h
                dsimp only at h
                refine cz2 q87_141 (μ1 := (I185, J186, P, pm_T0, e)) (d135 hw e187) rfl ?_
                cases h
                exact r_rv c87_144 rt87 rfl
              · rw [if_neg h179] at h
                by_cases h188 : v1 = 1
                · rw [if_pos h188] at h
                  refine r_ts (t := 96) (o := 39) c87_57 (by rw [h188]; decide) rfl ?_
                  refine al0 c87_96 ?_
                  refine al1 c87_97 ?_
                  obtain ⟨⟨v189, I190, J191⟩, e192, h⟩ := pm_bd_sp h
                  dsimp only at h
                  refine cz2 q87_98 (μ1 := (I190, J191, P, pm_T0, e)) (d90 hw (by first | rfl | assumption | decide) e192) rfl ?_
                  refine r_go (t := 138) c87_101 rfl ?_
                  refine al1 c87_138 ?_
                  refine r_bi c87_139 kB59 ?_
                  obtain ⟨⟨v193, I194, J195⟩, e196, h⟩ := pm_bd_sp h
                  dsimp only at h
                  refine cz2 q87_141 (μ1 := (I194, J195, P, pm_T0, e)) (d135 hw e196) rfl ?_
                  cases h
                  exact r_rv c87_144 rt87 rfl
                · rw [if_neg h188] at h
                  by_cases h197 : v1 = 2
                  · rw [if_pos h197] at h
                    refine r_ts (t := 104) (o := 47) c87_57 (by rw [h197]; decide) rfl ?_
                    refine al0 c87_104 ?_
                    refine al1 c87_105 ?_
                    obtain ⟨⟨v198, I199, J200⟩, e201, h⟩ := pm_bd_sp h
                    dsimp only at h
                    refine cz2 q87_106 (μ1 := (I199, J200, P, pm_T0, e)) (d91 hw (by first | rfl | assumption | decide) e201) rfl ?_
                    refine r_go (t := 138) c87_109 rfl ?_
                    refine al1 c87_138 ?_
                    refine r_bi c87_139 kB59 ?_
                    obtain ⟨⟨v202, I203, J204⟩, e205, h⟩ := pm_bd_sp h
                    dsimp only at h
                    refine cz2 q87_141 (μ1 := (I203, J204, P, pm_T0, e)) (d135 hw e205) rfl ?_
                    cases h
                    exact r_rv c87_144 rt87 rfl
                  · rw [if_neg h197] at h
                    by_cases h206 : v1 = 3
                    · rw [if_pos h206] at h
                      refine r_ts (t := 112) (o := 55) c87_57 (by rw [h206]; decide) rfl ?_
                      refine al0 c87_112 ?_
                      refine al1 c87_113 ?_
                      refine r_ic c87_114 kI0 ?_
                      refine r_si c87_115 kS400 ?_
                      obtain ⟨⟨v207, I208, J209⟩, e210, h⟩ := pm_bd_sp h
                      dsimp only at h
                      refine cv3 q87_118 (v := .int v207) (μ1 := (I208, J209, P, pm_T0, e)) (d134 hw e210) rfl ?_
                      refine w_pi p87_121 (by first | rfl | assumption) rfl ?_
                      rw [pm_lt_eq] at h
                      generalize pm_w I208 a0 9 v207 = I211 at h ⊢
                      refine r_go (t := 138) c87_124 rfl ?_
                      refine al1 c87_138 ?_
                      refine r_bi c87_139 kB59 ?_
                      obtain ⟨⟨v212, I213, J214⟩, e215, h⟩ := pm_bd_sp h
                      dsimp only at h
                      refine cz2 q87_141 (μ1 := (I213, J214, P, pm_T0, e)) (d135 hw e215) rfl ?_
                      cases h
                      exact r_rv c87_144 rt87 rfl
                    · rw [if_neg h206] at h
                      refine r_ts (t := 127) (o := 70) c87_57 (pm_tsd v1 [0, 1, 2, 3] (by decide) (by intro v hv; simp only [List.mem_cons, List.not_mem_nil, or_false] at hv; rcases hv with rfl | rfl | rfl | rfl <;> assumption)) rfl ?_
                      refine al0 c87_127 ?_
                      refine al1 c87_128 ?_
                      refine r_ic c87_129 kI0 ?_
                      refine r_bi c87_130 kB20 ?_
                      obtain ⟨⟨v216, I217, J218⟩, e219, h⟩ := pm_bd_sp h
                      dsimp only at h
                      refine cv3 q87_132 (v := .int v216) (μ1 := (I217, J218, P, pm_T0, e)) (d134 hw e219) rfl ?_
                      refine w_pi p87_135 (by first | rfl | assumption) rfl ?_
                      rw [pm_lt_eq] at h
                      generalize pm_w I217 a0 10 v216 = I220 at h ⊢
                      refine al1 c87_138 ?_
                      refine r_bi c87_139 kB59 ?_
                      obtain ⟨⟨v221, I222, J223⟩, e224, h⟩ := pm_bd_sp h
                      dsimp only at h
                      refine cz2 q87_141 (μ1 := (I222, J223, P, pm_T0, e)) (d135 hw e224) rfl ?_
                      cases h
                      exact r_rv c87_144 rt87 rfl
            · rw [if_neg (Int.not_lt.mpr h174)] at h
              refine al1 c87_46 ?_
              refine r_ic c87_47 kI3 ?_
              obtain ⟨⟨v225, I226, J227⟩, e228, h⟩ := pm_bd_sp h
              dsimp only at h
              refine cz2 q87_48 (μ1 := (I226, J227, P, pm_T0, e)) (d133 hw e228) rfl ?_
              cases h
              exact r_rv c87_51 rt87 rfl
  · rw [if_pos h5] at h
    refine al1 c87_10 ?_
    refine r_ic c87_11 kI1 ?_
    obtain ⟨⟨v229, I230, J231⟩, e232, h⟩ := pm_bd_sp h
    dsimp only at h
    refine cz2 q87_12 (μ1 := (I230, J231, P, pm_T0, e)) (d133 hw e232) rfl ?_
    cases h
    exact r_rv c87_15 rt87 rfl
def f86_24 (a0 : Nat) : Nat → Int32 → (Nat → Nat → Int32) → (Nat → Nat → Int64) → Option (Unit × (Nat → Nat → Int32) × (Nat → Nat → Int64))
  | 0, _, _, _ => none
  | fu + 1, y2, I, J => (if (60 : Int32).toInt < y2.toInt then some ((), I, J) else (if (v131  I) = true then (if y2 = 60 then (f87 a0 1 I J).bind (fun (v8, I9, J10) => f86_24 a0 fu (y2 + 1) I9 J10) else (f87 a0 0 I J).bind (fun (v4, I5, J6) => f86_24 a0 fu (y2 + 1) I5 J6)) else some ((), I, J)))
def f86 (a0 : Nat) (I : Nat → Nat → Int32) (J : Nat → Nat → Int64) : Option (Unit × (Nat → Nat → Int32) × (Nat → Nat → Int64)) := pm_lt (pm_w I a0 7 0) (fun I1 => pm_lt (pm_w I1 a0 8 0) (fun I2 => pm_lt (pm_w I2 a0 9 60) (fun I3 => pm_lt (pm_w I3 a0 10 8) (fun I4 => f86_24 a0 pm_FU 0 I4 J))))
theorem d86_24 {X : (Nat → Int32) × Nat} {d : Nat} {P : Nat → Nat → Value} {e r k r2 k2 : Nat} {a0 : Nat} (hw : pm_W P r k r2 k2) (hy0 : pm_rgT P a0) : ∀ (fu : Nat) {y2 : Int32} {I : Nat → Nat → Int32} {J : Nat → Nat → Int64} {q : Unit × (Nat → Nat → Int32) × (Nat → Nat → Int64)} (h : f86_24 a0 fu y2 I J = some q), pm_Fx X (d + 8) 86 24 [.ref a0, .ref 1, .int y2] [] (I, J, P, pm_T0, e) (.inl none) (q.2.1, q.2.2, P, pm_T0, e) := by
  obtain ⟨hp, hw1, hw2, hw3, hw4, hw5, hw6, hw7, hw8, hw9, hw10, hw11⟩ := id hw
  have hwa := hw5.1
  have hwb := hw6.1
  have hwc := hw7.1
  have hwd := hw8.1
  obtain ⟨t0, ⟨t1, t2, t3, t4, t5, t6, t7⟩, u0, u1, u2, u3, u4, u5, u6⟩ := id hy0
  intro fu
  induction fu with
  | zero => intro y2 I J q h; cases h
  | succ fu ih =>
    intro y2 I J q h
    rw [f86_24] at h
    refine il2 c86_24 ?_
    refine r_bi c86_25 kB60 ?_
    refine r_icgt (t := 59) c86_27 rfl (fun h1 => ?_) (fun h1 => ?_)
    · rw [if_pos h1] at h
      cases h
      exact r_rv c86_59 rt86 rfl
    · rw [if_neg (Int.not_lt.mpr h1)] at h
      refine al1 c86_30 ?_
      refine cv1 q86_31 (d131 hw rfl) rfl ?_
      refine r_ifeq (t := 59) c86_34 rfl (fun h2 => ?_) (fun h2 => ?_)
      · rw [if_neg (pm_bf h2)] at h
        cases h
        exact r_rv c86_59 rt86 rfl
      · rw [if_pos (pm_bt h2)] at h
        refine al0 c86_37 ?_
        refine al1 c86_38 ?_
        refine il2 c86_39 ?_
        refine r_bi c86_40 kB60 ?_
        refine r_icne (t := 49) c86_42 rfl (fun h3 => ?_) (fun h3 => ?_)
        · rw [if_neg h3] at h
          refine r_ic c86_49 kI0 ?_
          obtain ⟨⟨v4, I5, J6⟩, e7, h⟩ := pm_bd_sp h
          dsimp only at h
          refine cz3 q86_50 (μ1 := (I5, J6, P, pm_T0, e)) (d87 hw (by first | rfl | assumption | decide) e7) rfl ?_
          refine ii2 c86_53 kI1 rfl ?_
          refine r_go (t := 24) c86_56 rfl ?_
          exact ih h
        · rw [if_pos h3] at h
          refine r_ic c86_45 kI1 ?_
          refine r_go (t := 50) c86_46 rfl ?_
          obtain ⟨⟨v8, I9, J10⟩, e11, h⟩ := pm_bd_sp h
          dsimp only at h
          refine cz3 q86_50 (μ1 := (I9, J10, P, pm_T0, e)) (d87 hw (by first | rfl | assumption | decide) e11) rfl ?_
          refine ii2 c86_53 kI1 rfl ?_
          refine r_go (t := 24) c86_56 rfl ?_
          exact ih h
theorem d86 {X : (Nat → Int32) × Nat} {d : Nat} {I : Nat → Nat → Int32} {J : Nat → Nat → Int64} {P : Nat → Nat → Value} {e r k r2 k2 : Nat} {a0 : Nat} {q : Unit × (Nat → Nat → Int32) × (Nat → Nat → Int64)} (hw : pm_W P r k r2 k2) (hy0 : pm_rgT P a0) (h : f86 a0 I J = some q) : pm_Fn X (d + 8) 86 1 [.ref a0, .ref 1] (I, J, P, pm_T0, e) (.inl none) (q.2.1, q.2.2, P, pm_T0, e) := by
  obtain ⟨hp, hw1, hw2, hw3, hw4, hw5, hw6, hw7, hw8, hw9, hw10, hw11⟩ := id hw
  have hwa := hw5.1
  have hwb := hw6.1
  have hwc := hw7.1
  have hwd := hw8.1
  obtain ⟨t0, ⟨t1, t2, t3, t4, t5, t6, t7⟩, u0, u1, u2, u3, u4, u5, u6⟩ := id hy0
  unfold f86 at h
  refine fn_v rc86 (c := 5) (nf := 11) (by first | rfl | assumption) ml86 rfl rfl rfl rfl ?_
  refine al0 c86_0 ?_
  refine r_ic c86_1 kI0 ?_
  refine w_pi p86_2 (by first | rfl | assumption) rfl ?_
  rw [pm_lt_eq] at h
  generalize pm_w I a0 7 0 = I1 at h ⊢
  refine al0 c86_5 ?_
  refine r_ic c86_6 kI0 ?_
  refine w_pi p86_7 (by first | rfl | assumption) rfl ?_
  rw [pm_lt_eq] at h
  generalize pm_w I1 a0 8 0 = I2 at h ⊢
  refine al0 c86_10 ?_
  refine r_bi c86_11 kB60 ?_
  refine w_pi p86_13 (by first | rfl | assumption) rfl ?_
  rw [pm_lt_eq] at h
  generalize pm_w I2 a0 9 60 = I3 at h ⊢
  refine al0 c86_16 ?_
  refine r_bi c86_17 kB8 ?_
  refine w_pi p86_19 (by first | rfl | assumption) rfl ?_
  rw [pm_lt_eq] at h
  generalize pm_w I3 a0 10 8 = I4 at h ⊢
  refine r_ic c86_22 kI0 ?_
  refine is2 c86_23 rfl ?_
  exact d86_24 hw hy0 pm_FU h
def v95 (a0 : Nat) (x1 : Int32) (I : Nat → Nat → Int32) : Bool := (if x1.toInt < 0 then false else (if x1.toInt < (I a0 7).toInt then true else false))
theorem d95 {X : (Nat → Int32) × Nat} {d : Nat} {I : Nat → Nat → Int32} {J : Nat → Nat → Int64} {P : Nat → Nat → Value} {e r k r2 k2 : Nat} {a0 : Nat} {x1 : Int32} {q : Bool} (hw : pm_W P r k r2 k2) (hy0 : pm_rgT P a0) (h : v95 a0 x1 I = q) : pm_Fn X (d) 95 1 [.ref a0, .int x1] (I, J, P, pm_T0, e) (.inl (some (.int (pm_bi q)))) (I, J, P, pm_T0, e) := by
  obtain ⟨hp, hw1, hw2, hw3, hw4, hw5, hw6, hw7, hw8, hw9, hw10, hw11⟩ := id hw
  have hwa := hw5.1
  have hwb := hw6.1
  have hwc := hw7.1
  have hwd := hw8.1
  obtain ⟨t0, ⟨t1, t2, t3, t4, t5, t6, t7⟩, u0, u1, u2, u3, u4, u5, u6⟩ := id hy0
  unfold v95 at h
  refine fn_v rc95 (c := 5) (nf := 11) (by first | rfl | assumption) ml95 rfl rfl rfl rfl ?_
  refine il1 c95_0 ?_
  refine r_iflt (t := 16) c95_1 rfl (fun h1 => ?_) (fun h1 => ?_)
  · rw [if_pos h1] at h
    refine r_ic c95_16 kI0 ?_
    cases h
    exact r_rz c95_17 rt95 (by decide) rfl rfl
  · rw [if_neg (Int.not_lt.mpr h1)] at h
    refine il1 c95_4 ?_
    refine al0 c95_5 ?_
    refine r_gi g95_6 (by first | rfl | assumption) rfl ?_
    refine r_icge (t := 16) c95_9 rfl (fun h2 => ?_) (fun h2 => ?_)
    · rw [if_neg (Int.not_lt.mpr h2)] at h
      refine r_ic c95_16 kI0 ?_
      cases h
      exact r_rz c95_17 rt95 (by decide) rfl rfl
    · rw [if_pos h2] at h
      refine r_ic c95_12 kI1 ?_
      refine r_go (t := 17) c95_13 rfl ?_
      cases h
      exact r_rz c95_17 rt95 (by decide) rfl rfl
def v97 (a0 : Nat) (x1 : Int32) (I : Nat → Nat → Int32) : Bool := (if x1.toInt < 0 then false else (if x1.toInt < (I a0 8).toInt then true else false))
theorem d97 {X : (Nat → Int32) × Nat} {d : Nat} {I : Nat → Nat → Int32} {J : Nat → Nat → Int64} {P : Nat → Nat → Value} {e r k r2 k2 : Nat} {a0 : Nat} {x1 : Int32} {q : Bool} (hw : pm_W P r k r2 k2) (hy0 : pm_rgT P a0) (h : v97 a0 x1 I = q) : pm_Fn X (d) 97 1 [.ref a0, .int x1] (I, J, P, pm_T0, e) (.inl (some (.int (pm_bi q)))) (I, J, P, pm_T0, e) := by
  obtain ⟨hp, hw1, hw2, hw3, hw4, hw5, hw6, hw7, hw8, hw9, hw10, hw11⟩ := id hw
  have hwa := hw5.1
  have hwb := hw6.1
  have hwc := hw7.1
  have hwd := hw8.1
  obtain ⟨t0, ⟨t1, t2, t3, t4, t5, t6, t7⟩, u0, u1, u2, u3, u4, u5, u6⟩ := id hy0
  unfold v97 at h
  refine fn_v rc97 (c := 5) (nf := 11) (by first | rfl | assumption) ml97 rfl rfl rfl rfl ?_
  refine il1 c97_0 ?_
  refine r_iflt (t := 16) c97_1 rfl (fun h1 => ?_) (fun h1 => ?_)
  · rw [if_pos h1] at h
    refine r_ic c97_16 kI0 ?_
    cases h
    exact r_rz c97_17 rt97 (by decide) rfl rfl
  · rw [if_neg (Int.not_lt.mpr h1)] at h
    refine il1 c97_4 ?_
    refine al0 c97_5 ?_
    refine r_gi g97_6 (by first | rfl | assumption) rfl ?_
    refine r_icge (t := 16) c97_9 rfl (fun h2 => ?_) (fun h2 => ?_)
    · rw [if_neg (Int.not_lt.mpr h2)] at h
      refine r_ic c97_16 kI0 ?_
      cases h
      exact r_rz c97_17 rt97 (by decide) rfl rfl
    · rw [if_pos h2] at h
      refine r_ic c97_12 kI1 ?_
      refine r_go (t := 17) c97_13 rfl ?_
      cases h
      exact r_rz c97_17 rt97 (by decide) rfl rfl
def f113  (I : Nat → Nat → Int32) (J : Nat → Nat → Int64) : Option (Int32 × (Nat → Nat → Int32) × (Nat → Nat → Int64)) := (f132 32 I J).bind (fun (v1, I2, J3) => (if v1 = true then some (0, I2, J3) else (f132 34 I2 J3).bind (fun (v6, I7, J8) => (if v6 = true then some (1, I7, J8) else (f132 36 I7 J8).bind (fun (v11, I12, J13) => (if v11 = true then some (2, I12, J13) else (f132 38 I12 J13).bind (fun (v16, I17, J18) => (if v16 = true then some (3, I17, J18) else (f132 40 I17 J18).bind (fun (v21, I22, J23) => (if v21 = true then some (4, I22, J23) else (f132 42 I22 J23).bind (fun (v26, I27, J28) => (if v26 = true then some (5, I27, J28) else (f132 44 I27 J28).bind (fun (v31, I32, J33) => (if v31 = true then some (6, I32, J33) else (f132 30 I32 J33).bind (fun (v36, I37, J38) => (if v36 = true then some (7, I37, J38) else (f132 46 I37 J38).bind (fun (v41, I42, J43) => (if v41 = true then some (8, I42, J43) else some ((-1), I42, J43)))))))))))))))))))
theorem d113 {X : (Nat → Int32) × Nat} {d : Nat} {I : Nat → Nat → Int32} {J : Nat → Nat → Int64} {P : Nat → Nat → Value} {e r k r2 k2 : Nat}  {q : Int32 × (Nat → Nat → Int32) × (Nat → Nat → Int64)} (hw : pm_W P r k r2 k2)  (h : f113  I J = some q) : pm_Fn X (d + 6) 113 0 [.ref 1] (I, J, P, pm_T0, e) (.inl (some (.int q.1))) (q.2.1, q.2.2, P, pm_T0, e) := by
  obtain ⟨hp, hw1, hw2, hw3, hw4, hw5, hw6, hw7, hw8, hw9, hw10, hw11⟩ := id hw
  have hwa := hw5.1
  have hwb := hw6.1
  have hwc := hw7.1
  have hwd := hw8.1
  unfold f113 at h
  refine fn_s ml113 rfl rfl rfl ?_
  refine al0 c113_0 ?_
  refine r_ks v113_1 ?_
  obtain ⟨⟨v1, I2, J3⟩, e4, h⟩ := pm_bd_sp h
  dsimp only at h
  refine cv2 q113_3 (v := .int (pm_bi v1)) (μ1 := (I2, J3, P, pm_T0, e)) (d132 hw (by first | rfl | assumption | decide) e4) rfl ?_
  refine r_ifeq (t := 11) c113_6 rfl (fun h5 => ?_) (fun h5 => ?_)
  · rw [if_neg (pm_bf h5)] at h
    refine al0 c113_11 ?_
    refine r_ks v113_12 ?_
    obtain ⟨⟨v6, I7, J8⟩, e9, h⟩ := pm_bd_sp h
    dsimp only at h
    refine cv2 q113_14 (v := .int (pm_bi v6)) (μ1 := (I7, J8, P, pm_T0, e)) (d132 hw (by first | rfl | assumption | decide) e9) rfl ?_
    refine r_ifeq (t := 22) c113_17 rfl (fun h10 => ?_) (fun h10 => ?_)
    · rw [if_neg (pm_bf h10)] at h
      refine al0 c113_22 ?_
      refine r_ks v113_23 ?_
      obtain ⟨⟨v11, I12, J13⟩, e14, h⟩ := pm_bd_sp h
      dsimp only at h
      refine cv2 q113_25 (v := .int (pm_bi v11)) (μ1 := (I12, J13, P, pm_T0, e)) (d132 hw (by first | rfl | assumption | decide) e14) rfl ?_
      refine r_ifeq (t := 33) c113_28 rfl (fun h15 => ?_) (fun h15 => ?_)
      · rw [if_neg (pm_bf h15)] at h
        refine al0 c113_33 ?_
        refine r_ks v113_34 ?_
        obtain ⟨⟨v16, I17, J18⟩, e19, h⟩ := pm_bd_sp h
        dsimp only at h
        refine cv2 q113_36 (v := .int (pm_bi v16)) (μ1 := (I17, J18, P, pm_T0, e)) (d132 hw (by first | rfl | assumption | decide) e19) rfl ?_
        refine r_ifeq (t := 44) c113_39 rfl (fun h20 => ?_) (fun h20 => ?_)
        · rw [if_neg (pm_bf h20)] at h
          refine al0 c113_44 ?_
          refine r_ks v113_45 ?_
          obtain ⟨⟨v21, I22, J23⟩, e24, h⟩ := pm_bd_sp h
          dsimp only at h
          refine cv2 q113_47 (v := .int (pm_bi v21)) (μ1 := (I22, J23, P, pm_T0, e)) (d132 hw (by first | rfl | assumption | decide) e24) rfl ?_
          refine r_ifeq (t := 55) c113_50 rfl (fun h25 => ?_) (fun h25 => ?_)
          · rw [if_neg (pm_bf h25)] at h
            refine al0 c113_55 ?_
            refine r_ks v113_56 ?_
            obtain ⟨⟨v26, I27, J28⟩, e29, h⟩ := pm_bd_sp h
            dsimp only at h
            refine cv2 q113_58 (v := .int (pm_bi v26)) (μ1 := (I27, J28, P, pm_T0, e)) (d132 hw (by first | rfl | assumption | decide) e29) rfl ?_
            refine r_ifeq (t := 66) c113_61 rfl (fun h30 => ?_) (fun h30 => ?_)
            · rw [if_neg (pm_bf h30)] at h
              refine al0 c113_66 ?_
              refine r_ks v113_67 ?_
              obtain ⟨⟨v31, I32, J33⟩, e34, h⟩ := pm_bd_sp h
              dsimp only at h
              refine cv2 q113_69 (v := .int (pm_bi v31)) (μ1 := (I32, J33, P, pm_T0, e)) (d132 hw (by first | rfl | assumption | decide) e34) rfl ?_
              refine r_ifeq (t := 78) c113_72 rfl (fun h35 => ?_) (fun h35 => ?_)
              · rw [if_neg (pm_bf h35)] at h
                refine al0 c113_78 ?_
                refine r_ks v113_79 ?_
                obtain ⟨⟨v36, I37, J38⟩, e39, h⟩ := pm_bd_sp h
                dsimp only at h
                refine cv2 q113_81 (v := .int (pm_bi v36)) (μ1 := (I37, J38, P, pm_T0, e)) (d132 hw (by first | rfl | assumption | decide) e39) rfl ?_
                refine r_ifeq (t := 90) c113_84 rfl (fun h40 => ?_) (fun h40 => ?_)
                · rw [if_neg (pm_bf h40)] at h
                  refine al0 c113_90 ?_
                  refine r_ks v113_91 ?_
                  obtain ⟨⟨v41, I42, J43⟩, e44, h⟩ := pm_bd_sp h
                  dsimp only at h
                  refine cv2 q113_93 (v := .int (pm_bi v41)) (μ1 := (I42, J43, P, pm_T0, e)) (d132 hw (by first | rfl | assumption | decide) e44) rfl ?_
                  refine r_ifeq (t := 104) c113_96 rfl (fun h45 => ?_) (fun h45 => ?_)
                  · rw [if_neg (pm_bf h45)] at h
                    refine r_ic c113_104 kIm1 ?_
                    cases h
                    exact r_ri c113_105 rt113 rfl rfl
                  · rw [if_pos (pm_bt h45)] at h
                    refine r_bi c113_99 kB8 ?_
                    refine r_go (t := 105) c113_101 rfl ?_
                    cases h
                    exact r_ri c113_105 rt113 rfl rfl
                · rw [if_pos (pm_bt h40)] at h
                  refine r_bi c113_87 kB7 ?_
                  cases h
                  exact r_ri c113_89 rt113 rfl rfl
              · rw [if_pos (pm_bt h35)] at h
                refine r_bi c113_75 kB6 ?_
                cases h
                exact r_ri c113_77 rt113 rfl rfl
            · rw [if_pos (pm_bt h30)] at h
              refine r_ic c113_64 kI5 ?_
              cases h
              exact r_ri c113_65 rt113 rfl rfl
          · rw [if_pos (pm_bt h25)] at h
            refine r_ic c113_53 kI4 ?_
            cases h
            exact r_ri c113_54 rt113 rfl rfl
        · rw [if_pos (pm_bt h20)] at h
          refine r_ic c113_42 kI3 ?_
          cases h
          exact r_ri c113_43 rt113 rfl rfl
      · rw [if_pos (pm_bt h15)] at h
        refine r_ic c113_31 kI2 ?_
        cases h
        exact r_ri c113_32 rt113 rfl rfl
    · rw [if_pos (pm_bt h10)] at h
      refine r_ic c113_20 kI1 ?_
      cases h
      exact r_ri c113_21 rt113 rfl rfl
  · rw [if_pos (pm_bt h5)] at h
    refine r_ic c113_9 kI0 ?_
    cases h
    exact r_ri c113_10 rt113 rfl rfl
def v138  (I : Nat → Nat → Int32) : Bool := (if (I 1 7) = 0 then false else true)
theorem d138 {X : (Nat → Int32) × Nat} {d : Nat} {I : Nat → Nat → Int32} {J : Nat → Nat → Int64} {P : Nat → Nat → Value} {e r k r2 k2 : Nat}  {q : Bool} (hw : pm_W P r k r2 k2)  (h : v138  I = q) : pm_Fn X (d) 138 1 [.ref 1] (I, J, P, pm_T0, e) (.inl (some (.int (pm_bi q)))) (I, J, P, pm_T0, e) := by
  obtain ⟨hp, hw1, hw2, hw3, hw4, hw5, hw6, hw7, hw8, hw9, hw10, hw11⟩ := id hw
  have hwa := hw5.1
  have hwb := hw6.1
  have hwc := hw7.1
  have hwd := hw8.1
  unfold v138 at h
  refine fn_v rc138 (c := 8) (nf := 9) (by first | rfl | assumption) ml138 rfl rfl rfl rfl ?_
  refine al0 c138_0 ?_
  refine r_gi g138_1 (by first | rfl | assumption) rfl ?_
  refine r_ifeq (t := 11) c138_4 rfl (fun h1 => ?_) (fun h1 => ?_)
  · rw [if_pos h1] at h
    refine r_ic c138_11 kI0 ?_
    cases h
    exact r_rz c138_12 rt138 (by decide) rfl rfl
  · rw [if_neg h1] at h
    refine r_ic c138_7 kI1 ?_
    refine r_go (t := 12) c138_8 rfl ?_
    cases h
    exact r_rz c138_12 rt138 (by decide) rfl rfl
def f115 (a2 : Nat) (x3 : Int32) (I : Nat → Nat → Int32) (J : Nat → Nat → Int64) : Option (Unit × (Nat → Nat → Int32) × (Nat → Nat → Int64)) := (if (pm_at (I 98) 150 x3) = 0 then some ((), I, J) else (if (pm_at (I 98) 150 x3) = 7 then some ((), I, J) else (f134 0 ((I a2 7) - 1) I J).bind (fun (v3, I4, J5) => pm_lt (pm_pw I4 99 150 x3 v3) (fun I7 => (if (pm_at (I 98) 150 x3) = 1 then (f134 0 ((I7 a2 8) - 1) I7 J5).bind (fun (v15, I16, J17) => pm_lt (pm_pw I16 100 150 x3 v15) (fun I19 => some ((), I19, J17))) else (if (pm_at (I 98) 150 x3) = 2 then (f134 1 24 I7 J5).bind (fun (v10, I11, J12) => pm_lt (pm_pw I11 100 150 x3 v10) (fun I14 => some ((), I14, J12))) else some ((), I7, J5)))))))
theorem d115 {X : (Nat → Int32) × Nat} {d : Nat} {I : Nat → Nat → Int32} {J : Nat → Nat → Int64} {P : Nat → Nat → Value} {e r k r2 k2 : Nat} {a2 : Nat} {x3 : Int32} {q : Unit × (Nat → Nat → Int32) × (Nat → Nat → Int64)} (hw : pm_W P r k r2 k2) (hy0 : pm_rgT P a2) (h : f115 a2 x3 I J = some q) : pm_Fn X (d + 3) 115 1 [.ref 97, .ref 1, .ref a2, .int x3] (I, J, P, pm_T0, e) (.inl none) (q.2.1, q.2.2, P, pm_T0, e) := by
  obtain ⟨hp, hw1, hw2, hw3, hw4, hw5, hw6, hw7, hw8, hw9, hw10, hw11⟩ := id hw
  have hwa := hw5.1
  have hwb := hw6.1
  have hwc := hw7.1
  have hwd := hw8.1
  obtain ⟨t0, ⟨t1, t2, t3, t4, t5, t6, t7⟩, u0, u1, u2, u3, u4, u5, u6⟩ := id hy0
  unfold f115 at h
  refine fn_v rc115 (c := 7) (nf := 8) (by first | rfl | assumption) ml115 rfl rfl rfl rfl ?_
  refine al0 c115_0 ?_
  refine r_gr g115_1 (by first | rfl | assumption) rfl (by first | exact hp _ _ _ rfl | assumption) ?_
  refine il3 c115_4 ?_
  refine cv2 q115_5 (s160 (by first | rfl | assumption) (by first | decide | assumption)) rfl ?_
  refine is4 c115_8 rfl ?_
  refine il4 c115_10 ?_
  refine r_ifeq (t := 22) c115_12 rfl (fun h1 => ?_) (fun h1 => ?_)
  · rw [if_pos h1] at h
    cases h
    exact r_rv c115_22 rt115 rfl
  · rw [if_neg h1] at h
    refine il4 c115_15 ?_
    refine r_bi c115_17 kB7 ?_
    refine r_icne (t := 23) c115_19 rfl (fun h2 => ?_) (fun h2 => ?_)
    · rw [if_neg h2] at h
      refine al0 c115_23 ?_
      refine r_gr g115_24 (by first | rfl | assumption) rfl (by first | exact hp _ _ _ rfl | assumption) ?_
      refine il3 c115_27 ?_
      refine al1 c115_28 ?_
      refine r_ic c115_29 kI0 ?_
      refine al2 c115_30 ?_
      refine cv1 q115_31 (s81 (by first | rfl | assumption)) rfl ?_
      refine r_ic c115_34 kI1 ?_
      refine r_isub c115_35 ?_
      obtain ⟨⟨v3, I4, J5⟩, e6, h⟩ := pm_bd_sp h
      dsimp only at h
      refine cv3 q115_36 (v := .int v3) (μ1 := (I4, J5, P, pm_T0, e)) (d134 hw e6) rfl ?_
      refine cz3 q115_39 (t159 (by first | rfl | assumption) (by first | decide | assumption)) rfl ?_
      rw [pm_lt_eq] at h
      generalize pm_pw I4 99 150 x3 v3 = I7 at h ⊢
      refine il4 c115_42 ?_
      refine r_ic c115_44 kI1 ?_
      refine r_icne (t := 70) c115_45 rfl (fun h8 => ?_) (fun h8 => ?_)
      · rw [if_neg h8] at h
        refine il4 c115_70 ?_
        refine r_ic c115_72 kI2 ?_
        refine r_icne (t := 91) c115_73 rfl (fun h9 => ?_) (fun h9 => ?_)
        · rw [if_neg h9] at h
          cases h
          exact r_rv c115_91 rt115 rfl
        · rw [if_pos h9] at h
          refine al0 c115_76 ?_
          refine r_gr g115_77 (by first | rfl | assumption) rfl (by first | exact hp _ _ _ rfl | assumption) ?_
          refine il3 c115_80 ?_
          refine al1 c115_81 ?_
          refine r_ic c115_82 kI1 ?_
          refine r_bi c115_83 kB24 ?_
          obtain ⟨⟨v10, I11, J12⟩, e13, h⟩ := pm_bd_sp h
          dsimp only at h
          refine cv3 q115_85 (v := .int v10) (μ1 := (I11, J12, P, pm_T0, e)) (d134 hw e13) rfl ?_
          refine cz3 q115_88 (t159 (by first | rfl | assumption) (by first | decide | assumption)) rfl ?_
          rw [pm_lt_eq] at h
          generalize pm_pw I11 100 150 x3 v10 = I14 at h ⊢
          cases h
          exact r_rv c115_91 rt115 rfl
      · rw [if_pos h8] at h
        refine al0 c115_48 ?_
        refine r_gr g115_49 (by first | rfl | assumption) rfl (by first | exact hp _ _ _ rfl | assumption) ?_
        refine il3 c115_52 ?_
        refine al1 c115_53 ?_
        refine r_ic c115_54 kI0 ?_
        refine al2 c115_55 ?_
        refine cv1 q115_56 (s92 (by first | rfl | assumption)) rfl ?_
        refine r_ic c115_59 kI1 ?_
        refine r_isub c115_60 ?_
        obtain ⟨⟨v15, I16, J17⟩, e18, h⟩ := pm_bd_sp h
        dsimp only at h
        refine cv3 q115_61 (v := .int v15) (μ1 := (I16, J17, P, pm_T0, e)) (d134 hw e18) rfl ?_
        refine cz3 q115_64 (t159 (by first | rfl | assumption) (by first | decide | assumption)) rfl ?_
        rw [pm_lt_eq] at h
        generalize pm_pw I16 100 150 x3 v15 = I19 at h ⊢
        refine r_go (t := 91) c115_67 rfl ?_
        cases h
        exact r_rv c115_91 rt115 rfl
    · rw [if_pos h2] at h
      cases h
      exact r_rv c115_22 rt115 rfl
def f116  (I : Nat → Nat → Int32) (J : Nat → Nat → Int64) : Option (Unit × (Nat → Nat → Int32) × (Nat → Nat → Int64)) := pm_lt (pm_w I 97 5 0) (fun I1 => pm_lt (pm_w I1 97 6 0) (fun I2 => pm_lt (pm_w I2 97 7 0) (fun I3 => some ((), I3, J))))
theorem d116 {X : (Nat → Int32) × Nat} {d : Nat} {I : Nat → Nat → Int32} {J : Nat → Nat → Int64} {P : Nat → Nat → Value} {e r k r2 k2 : Nat}  {q : Unit × (Nat → Nat → Int32) × (Nat → Nat → Int64)} (hw : pm_W P r k r2 k2)  (h : f116  I J = some q) : pm_Fn X (d) 116 1 [.ref 97] (I, J, P, pm_T0, e) (.inl none) (q.2.1, q.2.2, P, pm_T0, e) := by
  obtain ⟨hp, hw1, hw2, hw3, hw4, hw5, hw6, hw7, hw8, hw9, hw10, hw11⟩ := id hw
  have hwa := hw5.1
  have hwb := hw6.1
  have hwc := hw7.1
  have hwd := hw8.1
  unfold f116 at h
  refine fn_v rc116 (c := 7) (nf := 8) (by first | rfl | assumption) ml116 rfl rfl rfl rfl ?_
  refine al0 c116_0 ?_
  refine r_ic c116_1 kI0 ?_
  refine w_pi p116_2 (by first | rfl | assumption) rfl ?_
  rw [pm_lt_eq] at h
  generalize pm_w I 97 5 0 = I1 at h ⊢
  refine al0 c116_5 ?_
  refine r_ic c116_6 kI0 ?_
  refine w_pi p116_7 (by first | rfl | assumption) rfl ?_
  rw [pm_lt_eq] at h
  generalize pm_w I1 97 6 0 = I2 at h ⊢
  refine al0 c116_10 ?_
  refine r_ic c116_11 kI0 ?_
  refine w_pi p116_12 (by first | rfl | assumption) rfl ?_
  rw [pm_lt_eq] at h
  generalize pm_w I2 97 7 0 = I3 at h ⊢
  cases h
  exact r_rv c116_15 rt116 rfl
def f124_3  : Nat → Int32 → Int32 → (Nat → Nat → Int32) → (Nat → Nat → Int64) → Option (Unit × (Nat → Nat → Int32) × (Nat → Nat → Int64))
  | 0, _, _, _, _ => none
  | fu + 1, y1, y2, I, J => (if y2.toInt < 0 then some ((), I, J) else (if (I 1 1).toInt < (nI 600).toInt then pm_lt (pm_pw I 2 600 (I 1 1) (((y1.toUInt32 >>> (y2.toUInt32 &&& Int32.toUInt32 31)).toInt32) &&& 255)) (fun I3 => pm_lt (pm_w I3 1 1 ((I3 1 1) + 1)) (fun I4 => f124_3 fu y1 (y2 + (-8)) I4 J)) else f124_3 fu y1 (y2 + (-8)) I J))
def f124 (x1 : Int32) (I : Nat → Nat → Int32) (J : Nat → Nat → Int64) : Option (Unit × (Nat → Nat → Int32) × (Nat → Nat → Int64)) := f124_3 pm_FU x1 24 I J
theorem d124_3 {X : (Nat → Int32) × Nat} {d : Nat} {P : Nat → Nat → Value} {e r k r2 k2 : Nat}  (hw : pm_W P r k r2 k2)  : ∀ (fu : Nat) {y1 y2 : Int32} {I : Nat → Nat → Int32} {J : Nat → Nat → Int64} {q : Unit × (Nat → Nat → Int32) × (Nat → Nat → Int64)} (h : f124_3 fu y1 y2 I J = some q), pm_Fx X (d + 1) 124 3 [.ref 1, .int y1, .int y2] [] (I, J, P, pm_T0, e) (.inl none) (q.2.1, q.2.2, P, pm_T0, e) := by
  obtain ⟨hp, hw1, hw2, hw3, hw4, hw5, hw6, hw7, hw8, hw9, hw10, hw11⟩ := id hw
  have hwa := hw5.1
  have hwb := hw6.1
  have hwc := hw7.1
  have hwd := hw8.1
  intro fu
  induction fu with
  | zero => intro y1 y2 I J q h; cases h
  | succ fu ih =>
    intro y1 y2 I J q h
    rw [f124_3] at h
    refine il2 c124_3 ?_
    refine r_iflt (t := 53) c124_4 rfl (fun h1 => ?_) (fun h1 => ?_)
    · rw [if_pos h1] at h
      cases h
      exact r_rv c124_53 rt124 rfl
    · rw [if_neg (Int.not_lt.mpr h1)] at h
      refine al0 c124_7 ?_
      refine r_gi g124_8 (by first | rfl | assumption) rfl ?_
      refine al0 c124_11 ?_
      refine r_gr g124_12 (by first | rfl | assumption) rfl (by first | exact hp _ _ _ rfl | assumption) ?_
      refine r_len c124_15 (by first | rfl | assumption) rfl ?_
      refine r_icge (t := 47) c124_16 rfl (fun h2 => ?_) (fun h2 => ?_)
      · rw [if_neg (Int.not_lt.mpr h2)] at h
        refine ii2 c124_47 kIm8 rfl ?_
        refine r_go (t := 3) c124_50 rfl ?_
        exact ih h
      · rw [if_pos h2] at h
        refine al0 c124_19 ?_
        refine r_gr g124_20 (by first | rfl | assumption) rfl (by first | exact hp _ _ _ rfl | assumption) ?_
        refine al0 c124_23 ?_
        refine r_gi g124_24 (by first | rfl | assumption) rfl ?_
        refine il1 c124_27 ?_
        refine il2 c124_28 ?_
        refine r_iushr c124_29 ?_
        refine r_si c124_30 kS255 ?_
        refine r_iand c124_33 ?_
        refine cz3 q124_34 (t159 (by first | rfl | assumption) (by first | decide | assumption)) rfl ?_
        rw [pm_lt_eq] at h
        generalize pm_pw I 2 600 (I 1 1) (((y1.toUInt32 >>> (y2.toUInt32 &&& Int32.toUInt32 31)).toInt32) &&& 255) = I3 at h ⊢
        refine al0 c124_37 ?_
        refine r_dpr c124_38 ?_
        refine r_gi g124_39 (by first | rfl | assumption) rfl ?_
        refine r_ic c124_42 kI1 ?_
        refine r_iadd c124_43 ?_
        refine w_pi p124_44 (by first | rfl | assumption) rfl ?_
        rw [pm_lt_eq] at h
        generalize pm_w I3 1 1 ((I3 1 1) + 1) = I4 at h ⊢
        refine ii2 c124_47 kIm8 rfl ?_
        refine r_go (t := 3) c124_50 rfl ?_
        exact ih h
theorem d124 {X : (Nat → Int32) × Nat} {d : Nat} {I : Nat → Nat → Int32} {J : Nat → Nat → Int64} {P : Nat → Nat → Value} {e r k r2 k2 : Nat} {x1 : Int32} {q : Unit × (Nat → Nat → Int32) × (Nat → Nat → Int64)} (hw : pm_W P r k r2 k2)  (h : f124 x1 I J = some q) : pm_Fn X (d + 1) 124 1 [.ref 1, .int x1] (I, J, P, pm_T0, e) (.inl none) (q.2.1, q.2.2, P, pm_T0, e) := by
  obtain ⟨hp, hw1, hw2, hw3, hw4, hw5, hw6, hw7, hw8, hw9, hw10, hw11⟩ := id hw
  have hwa := hw5.1
  have hwb := hw6.1
  have hwc := hw7.1
  have hwd := hw8.1
  unfold f124 at h
  refine fn_v rc124 (c := 8) (nf := 9) (by first | rfl | assumption) ml124 rfl rfl rfl rfl ?_
  refine r_bi c124_0 kB24 ?_
  refine is2 c124_2 rfl ?_
  exact d124_3 hw pm_FU h
def f127  (I : Nat → Nat → Int32) (J : Nat → Nat → Int64) : Option (Unit × (Nat → Nat → Int32) × (Nat → Nat → Int64)) := pm_lt (pm_w I 1 7 0) (fun I1 => pm_lt (pm_w I1 1 8 (-1)) (fun I2 => some ((), I2, J)))
theorem d127 {X : (Nat → Int32) × Nat} {d : Nat} {I : Nat → Nat → Int32} {J : Nat → Nat → Int64} {P : Nat → Nat → Value} {e r k r2 k2 : Nat}  {q : Unit × (Nat → Nat → Int32) × (Nat → Nat → Int64)} (hw : pm_W P r k r2 k2)  (h : f127  I J = some q) : pm_Fn X (d) 127 1 [.ref 1] (I, J, P, pm_T0, e) (.inl none) (q.2.1, q.2.2, P, pm_T0, e) := by
  obtain ⟨hp, hw1, hw2, hw3, hw4, hw5, hw6, hw7, hw8, hw9, hw10, hw11⟩ := id hw
  have hwa := hw5.1
  have hwb := hw6.1
  have hwc := hw7.1
  have hwd := hw8.1
  unfold f127 at h
  refine fn_v rc127 (c := 8) (nf := 9) (by first | rfl | assumption) ml127 rfl rfl rfl rfl ?_
  refine al0 c127_0 ?_
  refine r_ic c127_1 kI0 ?_
  refine w_pi p127_2 (by first | rfl | assumption) rfl ?_
  rw [pm_lt_eq] at h
  generalize pm_w I 1 7 0 = I1 at h ⊢
  refine al0 c127_5 ?_
  refine r_ic c127_6 kIm1 ?_
  refine w_pi p127_7 (by first | rfl | assumption) rfl ?_
  rw [pm_lt_eq] at h
  generalize pm_w I1 1 8 (-1) = I2 at h ⊢
  cases h
  exact r_rv c127_10 rt127 rfl
def f126 (x1 : Int32) (I : Nat → Nat → Int32) (J : Nat → Nat → Int64) : Option (Unit × (Nat → Nat → Int32) × (Nat → Nat → Int64)) := (f127  I J).bind (fun (v1, I2, J3) => pm_lt (pm_w I2 1 2 (pm_min x1 (I2 1 1))) (fun I5 => pm_lt (pm_w I5 1 5 0) (fun I6 => (f128  I6 J3).bind (fun (v7, I8, J9) => some ((), I8, J9)))))
theorem d126 {X : (Nat → Int32) × Nat} {d : Nat} {I : Nat → Nat → Int32} {J : Nat → Nat → Int64} {P : Nat → Nat → Value} {e r k r2 k2 : Nat} {x1 : Int32} {q : Unit × (Nat → Nat → Int32) × (Nat → Nat → Int64)} (hw : pm_W P r k r2 k2)  (h : f126 x1 I J = some q) : pm_Fn X (d + 2) 126 1 [.ref 1, .int x1] (I, J, P, pm_T0, e) (.inl none) (q.2.1, q.2.2, P, pm_T0, e) := by
  obtain ⟨hp, hw1, hw2, hw3, hw4, hw5, hw6, hw7, hw8, hw9, hw10, hw11⟩ := id hw
  have hwa := hw5.1
  have hwb := hw6.1
  have hwc := hw7.1
  have hwd := hw8.1
  unfold f126 at h
  refine fn_v rc126 (c := 8) (nf := 9) (by first | rfl | assumption) ml126 rfl rfl rfl rfl ?_
  refine al0 c126_0 ?_
  obtain ⟨⟨v1, I2, J3⟩, e4, h⟩ := pm_bd_sp h
  dsimp only at h
  refine cz1 q126_1 (μ1 := (I2, J3, P, pm_T0, e)) (d127 hw e4) rfl ?_
  refine al0 c126_4 ?_
  refine il1 c126_5 ?_
  refine al0 c126_6 ?_
  refine r_gi g126_7 (by first | rfl | assumption) rfl ?_
  refine cv2 q126_10 s363 rfl ?_
  refine w_pi p126_13 (by first | rfl | assumption) rfl ?_
  rw [pm_lt_eq] at h
  generalize pm_w I2 1 2 (pm_min x1 (I2 1 1)) = I5 at h ⊢
  refine al0 c126_16 ?_
  refine r_ic c126_17 kI0 ?_
  refine w_pi p126_18 (by first | rfl | assumption) rfl ?_
  rw [pm_lt_eq] at h
  generalize pm_w I5 1 5 0 = I6 at h ⊢
  refine al0 c126_21 ?_
  obtain ⟨⟨v7, I8, J9⟩, e10, h⟩ := pm_bd_sp h
  dsimp only at h
  refine cz1 q126_22 (μ1 := (I8, J9, P, pm_T0, e)) (d128 hw e10) rfl ?_
  cases h
  exact r_rv c126_25 rt126 rfl
def f137  (I : Nat → Nat → Int32) (J : Nat → Nat → Int64) : Option (Unit × (Nat → Nat → Int32) × (Nat → Nat → Int64)) := pm_lt (pm_w I 1 1 0) (fun I1 => some ((), I1, J))
theorem d137 {X : (Nat → Int32) × Nat} {d : Nat} {I : Nat → Nat → Int32} {J : Nat → Nat → Int64} {P : Nat → Nat → Value} {e r k r2 k2 : Nat}  {q : Unit × (Nat → Nat → Int32) × (Nat → Nat → Int64)} (hw : pm_W P r k r2 k2)  (h : f137  I J = some q) : pm_Fn X (d) 137 1 [.ref 1] (I, J, P, pm_T0, e) (.inl none) (q.2.1, q.2.2, P, pm_T0, e) := by
  obtain ⟨hp, hw1, hw2, hw3, hw4, hw5, hw6, hw7, hw8, hw9, hw10, hw11⟩ := id hw
  have hwa := hw5.1
  have hwb := hw6.1
  have hwc := hw7.1
  have hwd := hw8.1
  unfold f137 at h
  refine fn_v rc137 (c := 8) (nf := 9) (by first | rfl | assumption) ml137 rfl rfl rfl rfl ?_
  refine al0 c137_0 ?_
  refine r_ic c137_1 kI0 ?_
  refine w_pi p137_2 (by first | rfl | assumption) rfl ?_
  rw [pm_lt_eq] at h
  generalize pm_w I 1 1 0 = I1 at h ⊢
  cases h
  exact r_rv c137_5 rt137 rfl
def v139  (I : Nat → Nat → Int32) : Int32 := (I 1 7) - 10
theorem d139 {X : (Nat → Int32) × Nat} {d : Nat} {I : Nat → Nat → Int32} {J : Nat → Nat → Int64} {P : Nat → Nat → Value} {e r k r2 k2 : Nat}  {q : Int32} (hw : pm_W P r k r2 k2)  (h : v139  I = q) : pm_Fn X (d) 139 1 [.ref 1] (I, J, P, pm_T0, e) (.inl (some (.int q))) (I, J, P, pm_T0, e) := by
  obtain ⟨hp, hw1, hw2, hw3, hw4, hw5, hw6, hw7, hw8, hw9, hw10, hw11⟩ := id hw
  have hwa := hw5.1
  have hwb := hw6.1
  have hwc := hw7.1
  have hwd := hw8.1
  unfold v139 at h
  refine fn_v rc139 (c := 8) (nf := 9) (by first | rfl | assumption) ml139 rfl rfl rfl rfl ?_
  refine al0 c139_0 ?_
  refine r_gi g139_1 (by first | rfl | assumption) rfl ?_
  refine r_bi c139_4 kB10 ?_
  refine r_isub c139_6 ?_
  cases h
  exact r_ri c139_7 rt139 rfl rfl
def f144_2  : Nat → Int32 → (Nat → Nat → Int32) → (Nat → Nat → Int64) → Option (Unit × (Nat → Nat → Int32) × (Nat → Nat → Int64))
  | 0, _, _, _ => none
  | fu + 1, y1, I, J => (if y1.toInt < (nI 1000).toInt then pm_gd (pm_in y1 1000) (pm_lt (pm_w I 103 (y1).toNatClampNeg 0) (fun I7 => f144_2 fu (y1 + 1) I7 J)) else pm_lt (pm_w I 102 1 0) (fun I2 => pm_lt (pm_w I2 102 2 (-1)) (fun I3 => pm_lt (pm_w I3 102 3 (-1)) (fun I4 => pm_lt (pm_w I4 102 4 (-1)) (fun I5 => some ((), I5, J))))))
def f144  (I : Nat → Nat → Int32) (J : Nat → Nat → Int64) : Option (Unit × (Nat → Nat → Int32) × (Nat → Nat → Int64)) := f144_2 pm_FU 0 I J
theorem d144_2 {X : (Nat → Int32) × Nat} {d : Nat} {P : Nat → Nat → Value} {e r k r2 k2 : Nat}  (hw : pm_W P r k r2 k2)  : ∀ (fu : Nat) {y1 : Int32} {I : Nat → Nat → Int32} {J : Nat → Nat → Int64} {q : Unit × (Nat → Nat → Int32) × (Nat → Nat → Int64)} (h : f144_2 fu y1 I J = some q), pm_Fx X (d) 144 2 [.ref 102, .int y1] [] (I, J, P, pm_T0, e) (.inl none) (q.2.1, q.2.2, P, pm_T0, e) := by
  obtain ⟨hp, hw1, hw2, hw3, hw4, hw5, hw6, hw7, hw8, hw9, hw10, hw11⟩ := id hw
  have hwa := hw5.1
  have hwb := hw6.1
  have hwc := hw7.1
  have hwd := hw8.1
  intro fu
  induction fu with
  | zero => intro y1 I J q h; cases h
  | succ fu ih =>
    intro y1 I J q h
    rw [f144_2] at h
    refine il1 c144_2 ?_
    refine al0 c144_3 ?_
    refine r_gr g144_4 (by first | rfl | assumption) rfl (by first | exact hp _ _ _ rfl | assumption) ?_
    refine r_len c144_7 (by first | rfl | assumption) rfl ?_
    refine r_icge (t := 24) c144_8 rfl (fun h1 => ?_) (fun h1 => ?_)
    · rw [if_neg (Int.not_lt.mpr h1)] at h
      refine al0 c144_24 ?_
      refine r_ic c144_25 kI0 ?_
      refine w_pi p144_26 (by first | rfl | assumption) rfl ?_
      rw [pm_lt_eq] at h
      generalize pm_w I 102 1 0 = I2 at h ⊢
      refine al0 c144_29 ?_
      refine r_ic c144_30 kIm1 ?_
      refine w_pi p144_31 (by first | rfl | assumption) rfl ?_
      rw [pm_lt_eq] at h
      generalize pm_w I2 102 2 (-1) = I3 at h ⊢
      refine al0 c144_34 ?_
      refine r_ic c144_35 kIm1 ?_
      refine w_pi p144_36 (by first | rfl | assumption) rfl ?_
      rw [pm_lt_eq] at h
      generalize pm_w I3 102 3 (-1) = I4 at h ⊢
      refine al0 c144_39 ?_
      refine r_ic c144_40 kIm1 ?_
      refine w_pi p144_41 (by first | rfl | assumption) rfl ?_
      rw [pm_lt_eq] at h
      generalize pm_w I4 102 4 (-1) = I5 at h ⊢
      cases h
      exact r_rv c144_44 rt144 rfl
    · rw [if_pos h1] at h
      refine al0 c144_11 ?_
      refine r_gr g144_12 (by first | rfl | assumption) rfl (by first | exact hp _ _ _ rfl | assumption) ?_
      refine il1 c144_15 ?_
      refine r_ic c144_16 kI0 ?_
      obtain ⟨g6, h⟩ := pm_gd_sp h
      refine w_ist c144_17 (by first | rfl | assumption) g6 ?_
      rw [pm_lt_eq] at h
      generalize pm_w I 103 (y1).toNatClampNeg 0 = I7 at h ⊢
      refine ii1 c144_18 kI1 rfl ?_
      refine r_go (t := 2) c144_21 rfl ?_
      exact ih h
theorem d144 {X : (Nat → Int32) × Nat} {d : Nat} {I : Nat → Nat → Int32} {J : Nat → Nat → Int64} {P : Nat → Nat → Value} {e r k r2 k2 : Nat}  {q : Unit × (Nat → Nat → Int32) × (Nat → Nat → Int64)} (hw : pm_W P r k r2 k2)  (h : f144  I J = some q) : pm_Fn X (d) 144 1 [.ref 102] (I, J, P, pm_T0, e) (.inl none) (q.2.1, q.2.2, P, pm_T0, e) := by
  obtain ⟨hp, hw1, hw2, hw3, hw4, hw5, hw6, hw7, hw8, hw9, hw10, hw11⟩ := id hw
  have hwa := hw5.1
  have hwb := hw6.1
  have hwc := hw7.1
  have hwd := hw8.1
  unfold f144 at h
  refine fn_v rc144 (c := 9) (nf := 7) (by first | rfl | assumption) ml144 rfl rfl rfl rfl ?_
  refine r_ic c144_0 kI0 ?_
  refine is1 c144_1 rfl ?_
  exact d144_2 hw pm_FU h
def f145 (x1 : Int32) (x2 : Int32) (I : Nat → Nat → Int32) (J : Nat → Nat → Int64) : Option (Unit × (Nat → Nat → Int32) × (Nat → Nat → Int64)) := (if (I 102 1) = 0 then pm_lt (pm_w I 102 2 x1) (fun I6 => pm_lt (pm_w I6 102 3 x2) (fun I7 => pm_lt (pm_w I7 102 4 x2) (fun I8 => pm_lt (pm_w I8 102 3 (pm_min (I8 102 3) x2)) (fun I9 => pm_lt (pm_w I9 102 4 (pm_max (I9 102 4) x2)) (fun I10 => pm_lt (pm_pw I10 103 1000 x2 ((pm_at (I10 103) 1000 x2) + 1)) (fun I11 => pm_lt (pm_w I11 102 1 ((I11 102 1) + 1)) (fun I12 => some ((), I12, J)))))))) else pm_lt (pm_w I 102 3 (pm_min (I 102 3) x2)) (fun I2 => pm_lt (pm_w I2 102 4 (pm_max (I2 102 4) x2)) (fun I3 => pm_lt (pm_pw I3 103 1000 x2 ((pm_at (I3 103) 1000 x2) + 1)) (fun I4 => pm_lt (pm_w I4 102 1 ((I4 102 1) + 1)) (fun I5 => some ((), I5, J))))))
theorem d145 {X : (Nat → Int32) × Nat} {d : Nat} {I : Nat → Nat → Int32} {J : Nat → Nat → Int64} {P : Nat → Nat → Value} {e r k r2 k2 : Nat} {x1 : Int32} {x2 : Int32} {q : Unit × (Nat → Nat → Int32) × (Nat → Nat → Int64)} (hw : pm_W P r k r2 k2)  (h : f145 x1 x2 I J = some q) : pm_Fn X (d + 1) 145 1 [.ref 102, .int x1, .int x2] (I, J, P, pm_T0, e) (.inl none) (q.2.1, q.2.2, P, pm_T0, e) := by
  obtain ⟨hp, hw1, hw2, hw3, hw4, hw5, hw6, hw7, hw8, hw9, hw10, hw11⟩ := id hw
  have hwa := hw5.1
  have hwb := hw6.1
  have hwc := hw7.1
  have hwd := hw8.1
  unfold f145 at h
  refine fn_v rc145 (c := 9) (nf := 7) (by first | rfl | assumption) ml145 rfl rfl rfl rfl ?_
  refine al0 c145_0 ?_
  refine r_gi g145_1 (by first | rfl | assumption) rfl ?_
  refine r_ifne (t := 22) c145_4 rfl (fun h1 => ?_) (fun h1 => ?_)
  · rw [if_neg h1] at h
    refine al0 c145_22 ?_
    refine al0 c145_23 ?_
    refine r_gi g145_24 (by first | rfl | assumption) rfl ?_
    refine il2 c145_27 ?_
    refine cv2 q145_28 s363 rfl ?_
    refine w_pi p145_31 (by first | rfl | assumption) rfl ?_
    rw [pm_lt_eq] at h
    generalize pm_w I 102 3 (pm_min (I 102 3) x2) = I2 at h ⊢
    refine al0 c145_34 ?_
    refine al0 c145_35 ?_
    refine r_gi g145_36 (by first | rfl | assumption) rfl ?_
    refine il2 c145_39 ?_
    refine cv2 q145_40 s362 rfl ?_
    refine w_pi p145_43 (by first | rfl | assumption) rfl ?_
    rw [pm_lt_eq] at h
    generalize pm_w I2 102 4 (pm_max (I2 102 4) x2) = I3 at h ⊢
    refine al0 c145_46 ?_
    refine r_gr g145_47 (by first | rfl | assumption) rfl (by first | exact hp _ _ _ rfl | assumption) ?_
    refine il2 c145_50 ?_
    refine al0 c145_51 ?_
    refine r_gr g145_52 (by first | rfl | assumption) rfl (by first | exact hp _ _ _ rfl | assumption) ?_
    refine il2 c145_55 ?_
    refine cv2 q145_56 (s160 (by first | rfl | assumption) (by first | decide | assumption)) rfl ?_
    refine r_ic c145_59 kI1 ?_
    refine r_iadd c145_60 ?_
    refine cz3 q145_61 (t159 (by first | rfl | assumption) (by first | decide | assumption)) rfl ?_
    rw [pm_lt_eq] at h
    generalize pm_pw I3 103 1000 x2 ((pm_at (I3 103) 1000 x2) + 1) = I4 at h ⊢
    refine al0 c145_64 ?_
    refine r_dpr c145_65 ?_
    refine r_gi g145_66 (by first | rfl | assumption) rfl ?_
    refine r_ic c145_69 kI1 ?_
    refine r_iadd c145_70 ?_
    refine w_pi p145_71 (by first | rfl | assumption) rfl ?_
    rw [pm_lt_eq] at h
    generalize pm_w I4 102 1 ((I4 102 1) + 1) = I5 at h ⊢
    cases h
    exact r_rv c145_74 rt145 rfl
  · rw [if_pos h1] at h
    refine al0 c145_7 ?_
    refine il1 c145_8 ?_
    refine w_pi p145_9 (by first | rfl | assumption) rfl ?_
    rw [pm_lt_eq] at h
    generalize pm_w I 102 2 x1 = I6 at h ⊢
    refine al0 c145_12 ?_
    refine il2 c145_13 ?_
    refine w_pi p145_14 (by first | rfl | assumption) rfl ?_
    rw [pm_lt_eq] at h
    generalize pm_w I6 102 3 x2 = I7 at h ⊢
    refine al0 c145_17 ?_
    refine il2 c145_18 ?_
    refine w_pi p145_19 (by first | rfl | assumption) rfl ?_
    rw [pm_lt_eq] at h
    generalize pm_w I7 102 4 x2 = I8 at h ⊢
    refine al0 c145_22 ?_
    refine al0 c145_23 ?_
    refine r_gi g145_24 (by first | rfl | assumption) rfl ?_
    refine il2 c145_27 ?_
    refine cv2 q145_28 s363 rfl ?_
    refine w_pi p145_31 (by first | rfl | assumption) rfl ?_
    rw [pm_lt_eq] at h
    generalize pm_w I8 102 3 (pm_min (I8 102 3) x2) = I9 at h ⊢
    refine al0 c145_34 ?_
    refine al0 c145_35 ?_
    refine r_gi g145_36 (by first | rfl | assumption) rfl ?_
    refine il2 c145_39 ?_
    refine cv2 q145_40 s362 rfl ?_
    refine w_pi p145_43 (by first | rfl | assumption) rfl ?_
    rw [pm_lt_eq] at h
    generalize pm_w I9 102 4 (pm_max (I9 102 4) x2) = I10 at h ⊢
    refine al0 c145_46 ?_
    refine r_gr g145_47 (by first | rfl | assumption) rfl (by first | exact hp _ _ _ rfl | assumption) ?_
    refine il2 c145_50 ?_
    refine al0 c145_51 ?_
    refine r_gr g145_52 (by first | rfl | assumption) rfl (by first | exact hp _ _ _ rfl | assumption) ?_
    refine il2 c145_55 ?_
    refine cv2 q145_56 (s160 (by first | rfl | assumption) (by first | decide | assumption)) rfl ?_
    refine r_ic c145_59 kI1 ?_
    refine r_iadd c145_60 ?_
    refine cz3 q145_61 (t159 (by first | rfl | assumption) (by first | decide | assumption)) rfl ?_
    rw [pm_lt_eq] at h
    generalize pm_pw I10 103 1000 x2 ((pm_at (I10 103) 1000 x2) + 1) = I11 at h ⊢
    refine al0 c145_64 ?_
    refine r_dpr c145_65 ?_
    refine r_gi g145_66 (by first | rfl | assumption) rfl ?_
    refine r_ic c145_69 kI1 ?_
    refine r_iadd c145_70 ?_
    refine w_pi p145_71 (by first | rfl | assumption) rfl ?_
    rw [pm_lt_eq] at h
    generalize pm_w I11 102 1 ((I11 102 1) + 1) = I12 at h ⊢
    cases h
    exact r_rv c145_74 rt145 rfl
def f143_L (r : Nat) (a2 : Nat) : Nat → Nat → Int32 → Int32 → (Nat → Nat → Int32) → (Nat → Nat → Int64) → Option (Unit × (Nat → Nat → Int32) × (Nat → Nat → Int64))
  | 0, _, _, _, _, _ => none
  | fu + 1, 0, y4, _, I, J => (if (9 : Int32).toInt < y4.toInt then some ((), I, J) else f143_L r a2 fu 1 y4 0 I J)
  | fu + 1, _ + 1, y4, y5, I, J => (if (24 : Int32).toInt < y5.toInt then f143_L r a2 fu 0 (y4 + 1) 0 I J else (f59 y4 y5 I J).bind (fun (v3, I4, J5) => (f14 a2 v3 I4 J5).bind (fun (v7, I8, J9) => (if v7 = true then (f145 ((100 * y4) + y5) v3 I8 J9).bind (fun (v12, I13, J14) => f143_L r a2 fu 1 y4 (y5 + 1) I13 J14) else f143_L r a2 fu 1 y4 (y5 + 1) I8 J9))))
def f143 (r : Nat) (a2 : Nat) (x3 : Int32) (I : Nat → Nat → Int32) (J : Nat → Nat → Int64) : Option (Unit × (Nat → Nat → Int32) × (Nat → Nat → Int64)) := (f144  I J).bind (fun (v1, I2, J3) => (f32 r x3 I2 J3).bind (fun (v5, I6, J7) => f143_L r a2 pm_FU 0 1 0 I6 J7))
theorem d143_L {X : (Nat → Int32) × Nat} {d : Nat} {P : Nat → Nat → Value} {e r k r2 k2 : Nat} {a2 : Nat} (hw : pm_W P r k r2 k2) (hy0 : pm_bkT P a2) : ∀ fu : Nat, (∀ {y4 : Int32} {I : Nat → Nat → Int32} {J : Nat → Nat → Int64} {q : Unit × (Nat → Nat → Int32) × (Nat → Nat → Int64)} {z3 : Value} {z5 : Value} {z6 : Value} (h : f143_L r a2 fu 0 y4 0 I J = some q), pm_Fx X (d + 4) 143 12 [.ref 102, .ref 3, .ref a2, z3, .int y4, z5, z6] [] (I, J, P, pm_T0, e) (.inl none) (q.2.1, q.2.2, P, pm_T0, e)) ∧ (∀ {y4 y5 : Int32} {I : Nat → Nat → Int32} {J : Nat → Nat → Int64} {q : Unit × (Nat → Nat → Int32) × (Nat → Nat → Int64)} {z3 : Value} {z6 : Value} (h : f143_L r a2 fu 1 y4 y5 I J = some q), pm_Fx X (d + 4) 143 22 [.ref 102, .ref 3, .ref a2, z3, .int y4, .int y5, z6] [] (I, J, P, pm_T0, e) (.inl none) (q.2.1, q.2.2, P, pm_T0, e)) := by
  obtain ⟨hp, hw1, hw2, hw3, hw4, hw5, hw6, hw7, hw8, hw9, hw10, hw11⟩ := id hw
  have hwa := hw5.1
  have hwb := hw6.1
  have hwc := hw7.1
  have hwd := hw8.1
  obtain ⟨t0a, t0b, t0c, u0a, u0b⟩ := id hy0
  intro fu
  induction fu with
  | zero => exact ⟨(by intro y4 I J q z3 z5 z6 h; cases h), (by intro y4 y5 I J q z3 z6 h; cases h)⟩
  | succ fu ih =>
    refine ⟨?_, ?_⟩
    · intro y4 I J q z3 z5 z6 h
      rw [f143_L] at h
      refine il4 c143_12 ?_
      refine r_bi c143_14 kB9 ?_
      refine r_icgt (t := 74) c143_16 rfl (fun h1 => ?_) (fun h1 => ?_)
      · rw [if_pos h1] at h
        cases h
        exact r_rv c143_74 rt143 rfl
      · rw [if_neg (Int.not_lt.mpr h1)] at h
        refine r_ic c143_19 kI0 ?_
        refine is5 c143_20 rfl ?_
        exact ih.2 h
    · intro y4 y5 I J q z3 z6 h
      rw [f143_L] at h
      refine il5 c143_22 ?_
      refine r_bi c143_24 kB24 ?_
      refine r_icgt (t := 68) c143_26 rfl (fun h2 => ?_) (fun h2 => ?_)
      · rw [if_pos h2] at h
        refine ii4c c143_68 kI1 ?_
        refine r_go (t := 12) c143_71 rfl ?_
        exact ih.1 h
      · rw [if_neg (Int.not_lt.mpr h2)] at h
        refine al1 c143_29 ?_
        refine il4 c143_30 ?_
        refine il5 c143_32 ?_
        obtain ⟨⟨v3, I4, J5⟩, e6, h⟩ := pm_bd_sp h
        dsimp only at h
        refine cv3 q143_34 (v := .int v3) (μ1 := (I4, J5, P, pm_T0, e)) (d59 hw e6) rfl ?_
        refine is6 c143_37 rfl ?_
        refine al2 c143_39 ?_
        refine il6 c143_40 ?_
        obtain ⟨⟨v7, I8, J9⟩, e10, h⟩ := pm_bd_sp h
        dsimp only at h
        refine cv2 q143_42 (v := .int (pm_bi v7)) (μ1 := (I8, J9, P, pm_T0, e)) (d14 hw (by first | rfl | assumption | decide) e10) rfl ?_
        refine r_ifeq (t := 62) c143_45 rfl (fun h11 => ?_) (fun h11 => ?_)
        · rw [if_neg (pm_bf h11)] at h
          refine ii5 c143_62 kI1 rfl ?_
          refine r_go (t := 22) c143_65 rfl ?_
          exact ih.2 h
        · rw [if_pos (pm_bt h11)] at h
          refine al0 c143_48 ?_
          refine r_bi c143_49 kB100 ?_
          refine il4 c143_51 ?_
          refine r_imul c143_53 ?_
          refine il5 c143_54 ?_
          refine r_iadd c143_56 ?_
          refine il6 c143_57 ?_
          obtain ⟨⟨v12, I13, J14⟩, e15, h⟩ := pm_bd_sp h
          dsimp only at h
          refine cz3 q143_59 (μ1 := (I13, J14, P, pm_T0, e)) (d145 hw e15) rfl ?_
          refine ii5 c143_62 kI1 rfl ?_
          refine r_go (t := 22) c143_65 rfl ?_
          exact ih.2 h
theorem d143 {X : (Nat → Int32) × Nat} {d : Nat} {I : Nat → Nat → Int32} {J : Nat → Nat → Int64} {P : Nat → Nat → Value} {e r k r2 k2 : Nat} {a2 : Nat} {x3 : Int32} {q : Unit × (Nat → Nat → Int32) × (Nat → Nat → Int64)} (hw : pm_W P r k r2 k2) (hy0 : pm_bkT P a2) (h : f143 r a2 x3 I J = some q) : pm_Fn X (d + 4) 143 1 [.ref 102, .ref 3, .ref a2, .int x3] (I, J, P, pm_T0, e) (.inl none) (q.2.1, q.2.2, P, pm_T0, e) := by
  obtain ⟨hp, hw1, hw2, hw3, hw4, hw5, hw6, hw7, hw8, hw9, hw10, hw11⟩ := id hw
  have hwa := hw5.1
  have hwb := hw6.1
  have hwc := hw7.1
  have hwd := hw8.1
  obtain ⟨t0a, t0b, t0c, u0a, u0b⟩ := id hy0
  unfold f143 at h
  refine fn_v rc143 (c := 9) (nf := 7) (by first | rfl | assumption) ml143 rfl rfl rfl rfl ?_
  refine al0 c143_0 ?_
  obtain ⟨⟨v1, I2, J3⟩, e4, h⟩ := pm_bd_sp h
  dsimp only at h
  refine cz1 q143_1 (μ1 := (I2, J3, P, pm_T0, e)) (d144 hw e4) rfl ?_
  refine al1 c143_4 ?_
  refine il3 c143_5 ?_
  obtain ⟨⟨v5, I6, J7⟩, e8, h⟩ := pm_bd_sp h
  dsimp only at h
  refine cz2 q143_6 (μ1 := (I6, J7, P, pm_T0, e)) (d32 hw e8) rfl ?_
  refine r_ic c143_9 kI1 ?_
  refine is4 c143_10 rfl ?_
  exact (d143_L hw hy0 pm_FU).1 h
def f150_17 (a1 : Nat) : Nat → Int32 → Int32 → Int32 → (Nat → Nat → Int32) → (Nat → Nat → Int64) → Option (Unit × (Nat → Nat → Int32) × (Nat → Nat → Int64))
  | 0, _, _, _, _, _ => none
  | fu + 1, y2, y3, y4, I, J => (if y4.toInt < 0 then some ((), I, J) else (if (499 : Int32).toInt < y4.toInt then f150_17 a1 fu (y2 + (pm_at (I 103) 1000 y4)) (pm_max y3 (pm_at (I 103) 1000 y4)) (y4 + (-1)) I J else (if (I 102 6).toInt < (pm_max y3 ((I 102 1) - y2)).toInt then f150_17 a1 fu (y2 + (pm_at (I 103) 1000 y4)) (pm_max y3 (pm_at (I 103) 1000 y4)) (y4 + (-1)) I J else (f12 a1 y4 I J).bind (fun (v4, I5, J6) => (if v4 = true then f150_17 a1 fu (y2 + (pm_at (I5 103) 1000 y4)) (pm_max y3 (pm_at (I5 103) 1000 y4)) (y4 + (-1)) I5 J6 else pm_lt (pm_w I5 102 5 y4) (fun I9 => pm_lt (pm_w I9 102 6 (pm_max y3 ((I 102 1) - y2))) (fun I10 => f150_17 a1 fu (y2 + (pm_at (I10 103) 1000 y4)) (pm_max y3 (pm_at (I10 103) 1000 y4)) (y4 + (-1)) I10 J6)))))))
def f150 (a1 : Nat) (I : Nat → Nat → Int32) (J : Nat → Nat → Int64) : Option (Unit × (Nat → Nat → Int32) × (Nat → Nat → Int64)) := pm_lt (pm_w I 102 6 (I 102 1)) (fun I1 => f150_17 a1 pm_FU 0 0 999 I1 J)
theorem d150_17 {X : (Nat → Int32) × Nat} {d : Nat} {P : Nat → Nat → Value} {e r k r2 k2 : Nat} {a1 : Nat} (hw : pm_W P r k r2 k2) (hy0 : pm_bkT P a1) : ∀ (fu : Nat) {y2 y3 y4 : Int32} {I : Nat → Nat → Int32} {J : Nat → Nat → Int64} {q : Unit × (Nat → Nat → Int32) × (Nat → Nat → Int64)} {z5 : Value} (h : f150_17 a1 fu y2 y3 y4 I J = some q), pm_Fx X (d + 2) 150 17 [.ref 102, .ref a1, .int y2, .int y3, .int y4, z5] [] (I, J, P, pm_T0, e) (.inl none) (q.2.1, q.2.2, P, pm_T0, e) := by
  obtain ⟨hp, hw1, hw2, hw3, hw4, hw5, hw6, hw7, hw8, hw9, hw10, hw11⟩ := id hw
  have hwa := hw5.1
  have hwb := hw6.1
  have hwc := hw7.1
  have hwd := hw8.1
  obtain ⟨t0a, t0b, t0c, u0a, u0b⟩ := id hy0
  intro fu
  induction fu with
  | zero => intro y2 y3 y4 I J q z5 h; cases h
  | succ fu ih =>
    intro y2 y3 y4 I J q z5 h
    rw [f150_17] at h
    refine il4 c150_17 ?_
    refine r_iflt (t := 104) c150_19 rfl (fun h1 => ?_) (fun h1 => ?_)
    · rw [if_pos h1] at h
      cases h
      exact r_rv c150_104 rt150 rfl
    · rw [if_neg (Int.not_lt.mpr h1)] at h
      refine il3 c150_22 ?_
      refine al0 c150_23 ?_
      refine r_gi g150_24 (by first | rfl | assumption) rfl ?_
      refine il2 c150_27 ?_
      refine r_isub c150_28 ?_
      refine cv2 q150_29 s362 rfl ?_
      refine is5 c150_32 rfl ?_
      refine il4 c150_34 ?_
      refine r_si c150_36 kS499 ?_
      refine r_icgt (t := 72) c150_39 rfl (fun h2 => ?_) (fun h2 => ?_)
      · rw [if_pos h2] at h
        refine il2 c150_72 ?_
        refine al0 c150_73 ?_
        refine r_gr g150_74 (by first | rfl | assumption) rfl (by first | exact hp _ _ _ rfl | assumption) ?_
        refine il4 c150_77 ?_
        refine cv2 q150_79 (s160 (by first | rfl | assumption) (by first | decide | assumption)) rfl ?_
        refine r_iadd c150_82 ?_
        refine is2 c150_83 rfl ?_
        refine il3 c150_84 ?_
        refine al0 c150_85 ?_
        refine r_gr g150_86 (by first | rfl | assumption) rfl (by first | exact hp _ _ _ rfl | assumption) ?_
        refine il4 c150_89 ?_
        refine cv2 q150_91 (s160 (by first | rfl | assumption) (by first | decide | assumption)) rfl ?_
        refine cv2 q150_94 s362 rfl ?_
        refine is3 c150_97 rfl ?_
        refine ii4 c150_98 kIm1 rfl ?_
        refine r_go (t := 17) c150_101 rfl ?_
        exact ih h
      · rw [if_neg (Int.not_lt.mpr h2)] at h
        refine il5 c150_42 ?_
        refine al0 c150_44 ?_
        refine r_gi g150_45 (by first | rfl | assumption) rfl ?_
        refine r_icgt (t := 72) c150_48 rfl (fun h3 => ?_) (fun h3 => ?_)
        · rw [if_pos h3] at h
          refine il2 c150_72 ?_
          refine al0 c150_73 ?_
          refine r_gr g150_74 (by first | rfl | assumption) rfl (by first | exact hp _ _ _ rfl | assumption) ?_
          refine il4 c150_77 ?_
          refine cv2 q150_79 (s160 (by first | rfl | assumption) (by first | decide | assumption)) rfl ?_
          refine r_iadd c150_82 ?_
          refine is2 c150_83 rfl ?_
          refine il3 c150_84 ?_
          refine al0 c150_85 ?_
          refine r_gr g150_86 (by first | rfl | assumption) rfl (by first | exact hp _ _ _ rfl | assumption) ?_
          refine il4 c150_89 ?_
          refine cv2 q150_91 (s160 (by first | rfl | assumption) (by first | decide | assumption)) rfl ?_
          refine cv2 q150_94 s362 rfl ?_
          refine is3 c150_97 rfl ?_
          refine ii4 c150_98 kIm1 rfl ?_
          refine r_go (t := 17) c150_101 rfl ?_
          exact ih h
        · rw [if_neg (Int.not_lt.mpr h3)] at h
          refine al1 c150_51 ?_
          refine il4 c150_52 ?_
          obtain ⟨⟨v4, I5, J6⟩, e7, h⟩ := pm_bd_sp h
          dsimp only at h
          refine cv2 q150_54 (v := .int (pm_bi v4)) (μ1 := (I5, J6, P, pm_T0, e)) (d12 hw (by first | rfl | assumption | decide) e7) rfl ?_
          refine r_ifne (t := 72) c150_57 rfl (fun h8 => ?_) (fun h8 => ?_)
          · rw [if_pos (pm_bt h8)] at h
            refine il2 c150_72 ?_
            refine al0 c150_73 ?_
            refine r_gr g150_74 (by first | rfl | assumption) rfl (by first | exact hp _ _ _ rfl | assumption) ?_
            refine il4 c150_77 ?_
            refine cv2 q150_79 (s160 (by first | rfl | assumption) (by first | decide | assumption)) rfl ?_
            refine r_iadd c150_82 ?_
            refine is2 c150_83 rfl ?_
            refine il3 c150_84 ?_
            refine al0 c150_85 ?_
            refine r_gr g150_86 (by first | rfl | assumption) rfl (by first | exact hp _ _ _ rfl | assumption) ?_
            refine il4 c150_89 ?_
            refine cv2 q150_91 (s160 (by first | rfl | assumption) (by first | decide | assumption)) rfl ?_
            refine cv2 q150_94 s362 rfl ?_
            refine is3 c150_97 rfl ?_
            refine ii4 c150_98 kIm1 rfl ?_
            refine r_go (t := 17) c150_101 rfl ?_
            exact ih h
          · rw [if_neg (pm_bf h8)] at h
            refine al0 c150_60 ?_
            refine il4 c150_61 ?_
            refine w_pi p150_63 (by first | rfl | assumption) rfl ?_
            rw [pm_lt_eq] at h
            generalize pm_w I5 102 5 y4 = I9 at h ⊢
            refine al0 c150_66 ?_
            refine il5 c150_67 ?_
            refine w_pi p150_69 (by first | rfl | assumption) rfl ?_
            rw [pm_lt_eq] at h
            generalize pm_w I9 102 6 (pm_max y3 ((I 102 1) - y2)) = I10 at h ⊢
            refine il2 c150_72 ?_
            refine al0 c150_73 ?_
            refine r_gr g150_74 (by first | rfl | assumption) rfl (by first | exact hp _ _ _ rfl | assumption) ?_
            refine il4 c150_77 ?_
            refine cv2 q150_79 (s160 (by first | rfl | assumption) (by first | decide | assumption)) rfl ?_
            refine r_iadd c150_82 ?_
            refine is2 c150_83 rfl ?_
            refine il3 c150_84 ?_
            refine al0 c150_85 ?_
            refine r_gr g150_86 (by first | rfl | assumption) rfl (by first | exact hp _ _ _ rfl | assumption) ?_
            refine il4 c150_89 ?_
            refine cv2 q150_91 (s160 (by first | rfl | assumption) (by first | decide | assumption)) rfl ?_
            refine cv2 q150_94 s362 rfl ?_
            refine is3 c150_97 rfl ?_
            refine ii4 c150_98 kIm1 rfl ?_
            refine r_go (t := 17) c150_101 rfl ?_
            exact ih h
theorem d150 {X : (Nat → Int32) × Nat} {d : Nat} {I : Nat → Nat → Int32} {J : Nat → Nat → Int64} {P : Nat → Nat → Value} {e r k r2 k2 : Nat} {a1 : Nat} {q : Unit × (Nat → Nat → Int32) × (Nat → Nat → Int64)} (hw : pm_W P r k r2 k2) (hy0 : pm_bkT P a1) (h : f150 a1 I J = some q) : pm_Fn X (d + 2) 150 1 [.ref 102, .ref a1] (I, J, P, pm_T0, e) (.inl none) (q.2.1, q.2.2, P, pm_T0, e) := by
  obtain ⟨hp, hw1, hw2, hw3, hw4, hw5, hw6, hw7, hw8, hw9, hw10, hw11⟩ := id hw
  have hwa := hw5.1
  have hwb := hw6.1
  have hwc := hw7.1
  have hwd := hw8.1
  obtain ⟨t0a, t0b, t0c, u0a, u0b⟩ := id hy0
  unfold f150 at h
  refine fn_v rc150 (c := 9) (nf := 7) (by first | rfl | assumption) ml150 rfl rfl rfl rfl ?_
  refine r_ic c150_0 kI0 ?_
  refine is2 c150_1 rfl ?_
  refine r_ic c150_2 kI0 ?_
  refine is3 c150_3 rfl ?_
  refine al0 c150_4 ?_
  refine al0 c150_5 ?_
  refine r_gi g150_6 (by first | rfl | assumption) rfl ?_
  refine w_pi p150_9 (by first | rfl | assumption) rfl ?_
  rw [pm_lt_eq] at h
  generalize pm_w I 102 6 (I 102 1) = I1 at h ⊢
  refine r_si c150_12 kS999 ?_
  refine is4 c150_15 rfl ?_
  exact d150_17 hw hy0 pm_FU h
def f154_34 (r : Nat)  : Nat → Int32 → Int32 → Int32 → Int32 → Int32 → Int32 → (Nat → Nat → Int32) → (Nat → Nat → Int64) → Option (Unit × (Nat → Nat → Int32) × (Nat → Nat → Int64))
  | 0, _, _, _, _, _, _, _, _ => none
  | fu + 1, y3, y4, y5, y6, y7, y8, I, J => (if y8.toInt < y5.toInt then (if (((((y7 * 1103515245) + 12345).toUInt32 >>> ((16 : Int32).toUInt32 &&& Int32.toUInt32 31)).toInt32) &&& 15).toInt < y3.toInt then pm_lt (pm_w I 112 2 ((I 112 2) + 1)) (fun I5 => pm_lt (pm_w I5 112 1 (pm_max 0 ((I5 112 1) - y4))) (fun I6 => pm_lt (pm_w I6 112 0 ((I6 112 0) + (pm_max 0 (y6 - (I6 112 1))))) (fun I7 => pm_lt (pm_w I7 112 1 (pm_max 0 ((I7 112 1) - y6))) (fun I8 => f154_34 r fu y3 y4 y5 y6 ((y7 * 1103515245) + 12345) (y8 + 1) I8 J)))) else pm_lt (pm_w I 112 0 ((I 112 0) + (pm_max 0 (y6 - (I 112 1))))) (fun I3 => pm_lt (pm_w I3 112 1 (pm_max 0 ((I3 112 1) - y6))) (fun I4 => f154_34 r fu y3 y4 y5 y6 ((y7 * 1103515245) + 12345) (y8 + 1) I4 J))) else some ((), I, J))
def f154 (r : Nat) (x2 : Int32) (x3 : Int32) (x4 : Int32) (x5 : Int32) (I : Nat → Nat → Int32) (J : Nat → Nat → Int64) : Option (Unit × (Nat → Nat → Int32) × (Nat → Nat → Int64)) := (f36 r 0 I J).bind (fun (v1, I2, J3) => pm_lt (pm_w I2 112 0 0) (fun I5 => pm_lt (pm_w I5 112 2 0) (fun I6 => pm_lt (pm_w I6 112 1 (v108  I6)) (fun I7 => f154_34 r pm_FU x3 x4 x5 v1 x2 0 I7 J3))))
theorem d154_34 {X : (Nat → Int32) × Nat} {d : Nat} {P : Nat → Nat → Value} {e r k r2 k2 : Nat}  (hw : pm_W P r k r2 k2)  : ∀ (fu : Nat) {y3 y4 y5 y6 y7 y8 : Int32} {I : Nat → Nat → Int32} {J : Nat → Nat → Int64} {q : Unit × (Nat → Nat → Int32) × (Nat → Nat → Int64)} {z1 : Value} {z2 : Value} (h : f154_34 r fu y3 y4 y5 y6 y7 y8 I J = some q), pm_Fx X (d + 4) 154 34 [.ref 112, z1, z2, .int y3, .int y4, .int y5, .int y6, .int y7, .int y8] [] (I, J, P, pm_T0, e) (.inl none) (q.2.1, q.2.2, P, pm_T0, e) := by
  obtain ⟨hp, hw1, hw2, hw3, hw4, hw5, hw6, hw7, hw8, hw9, hw10, hw11⟩ := id hw
  have hwa := hw5.1
  have hwb := hw6.1
  have hwc := hw7.1
  have hwd := hw8.1
  intro fu
  induction fu with
  | zero => intro y3 y4 y5 y6 y7 y8 I J q z1 z2 h; cases h
  | succ fu ih =>
    intro y3 y4 y5 y6 y7 y8 I J q z1 z2 h
    rw [f154_34] at h
    refine il8 c154_34 ?_
    refine il5 c154_36 ?_
    refine r_icge (t := 130) c154_38 rfl (fun h1 => ?_) (fun h1 => ?_)
    · rw [if_neg (Int.not_lt.mpr h1)] at h
      cases h
      exact r_rv c154_130 rt154 rfl
    · rw [if_pos h1] at h
      refine il7 c154_41 ?_
      refine r_ki v154_43 ?_
      refine r_imul c154_45 ?_
      refine r_si c154_46 kS12345 ?_
      refine r_iadd c154_49 ?_
      refine is7 c154_50 rfl ?_
      refine il7 c154_52 ?_
      refine r_bi c154_54 kB16 ?_
      refine r_iushr c154_56 ?_
      refine r_bi c154_57 kB15 ?_
      refine r_iand c154_59 ?_
      refine il3 c154_60 ?_
      refine r_icge (t := 89) c154_61 rfl (fun h2 => ?_) (fun h2 => ?_)
      · rw [if_neg (Int.not_lt.mpr h2)] at h
        refine al0 c154_89 ?_
        refine r_dpr c154_90 ?_
        refine r_gi g154_91 (by first | rfl | assumption) rfl ?_
        refine r_ic c154_94 kI0 ?_
        refine il6 c154_95 ?_
        refine al0 c154_97 ?_
        refine r_gi g154_98 (by first | rfl | assumption) rfl ?_
        refine r_isub c154_101 ?_
        refine cv2 q154_102 s362 rfl ?_
        refine r_iadd c154_105 ?_
        refine w_pi p154_106 (by first | rfl | assumption) rfl ?_
        rw [pm_lt_eq] at h
        generalize pm_w I 112 0 ((I 112 0) + (pm_max 0 (y6 - (I 112 1)))) = I3 at h ⊢
        refine al0 c154_109 ?_
        refine r_ic c154_110 kI0 ?_
        refine al0 c154_111 ?_
        refine r_gi g154_112 (by first | rfl | assumption) rfl ?_
        refine il6 c154_115 ?_
        refine r_isub c154_117 ?_
        refine cv2 q154_118 s362 rfl ?_
        refine w_pi p154_121 (by first | rfl | assumption) rfl ?_
        rw [pm_lt_eq] at h
        generalize pm_w I3 112 1 (pm_max 0 ((I3 112 1) - y6)) = I4 at h ⊢
        refine ii8 c154_124 kI1 rfl ?_
        refine r_go (t := 34) c154_127 rfl ?_
        exact ih h
      · rw [if_pos h2] at h
        refine al0 c154_64 ?_
        refine r_dpr c154_65 ?_
        refine r_gi g154_66 (by first | rfl | assumption) rfl ?_
        refine r_ic c154_69 kI1 ?_
        refine r_iadd c154_70 ?_
        refine w_pi p154_71 (by first | rfl | assumption) rfl ?_
        rw [pm_lt_eq] at h
        generalize pm_w I 112 2 ((I 112 2) + 1) = I5 at h ⊢
        refine al0 c154_74 ?_
        refine r_ic c154_75 kI0 ?_
        refine al0 c154_76 ?_
        refine r_gi g154_77 (by first | rfl | assumption) rfl ?_
        refine il4 c154_80 ?_
        refine r_isub c154_82 ?_
        refine cv2 q154_83 s362 rfl ?_
        refine w_pi p154_86 (by first | rfl | assumption) rfl ?_
        rw [pm_lt_eq] at h
        generalize pm_w I5 112 1 (pm_max 0 ((I5 112 1) - y4)) = I6 at h ⊢
        refine al0 c154_89 ?_
        refine r_dpr c154_90 ?_
        refine r_gi g154_91 (by first | rfl | assumption) rfl ?_
        refine r_ic c154_94 kI0 ?_
        refine il6 c154_95 ?_
        refine al0 c154_97 ?_
        refine r_gi g154_98 (by first | rfl | assumption) rfl ?_
        refine r_isub c154_101 ?_
        refine cv2 q154_102 s362 rfl ?_
        refine r_iadd c154_105 ?_
        refine w_pi p154_106 (by first | rfl | assumption) rfl ?_
        rw [pm_lt_eq] at h
        generalize pm_w I6 112 0 ((I6 112 0) + (pm_max 0 (y6 - (I6 112 1)))) = I7 at h ⊢
        refine al0 c154_109 ?_
        refine r_ic c154_110 kI0 ?_
        refine al0 c154_111 ?_
        refine r_gi g154_112 (by first | rfl | assumption) rfl ?_
        refine il6 c154_115 ?_
        refine r_isub c154_117 ?_
        refine cv2 q154_118 s362 rfl ?_
        refine w_pi p154_121 (by first | rfl | assumption) rfl ?_
        rw [pm_lt_eq] at h
        generalize pm_w I7 112 1 (pm_max 0 ((I7 112 1) - y6)) = I8 at h ⊢
        refine ii8 c154_124 kI1 rfl ?_
        refine r_go (t := 34) c154_127 rfl ?_
        exact ih h
theorem d154 {X : (Nat → Int32) × Nat} {d : Nat} {I : Nat → Nat → Int32} {J : Nat → Nat → Int64} {P : Nat → Nat → Value} {e r k r2 k2 : Nat} {x2 : Int32} {x3 : Int32} {x4 : Int32} {x5 : Int32} {q : Unit × (Nat → Nat → Int32) × (Nat → Nat → Int64)} (hw : pm_W P r k r2 k2)  (h : f154 r x2 x3 x4 x5 I J = some q) : pm_Fn X (d + 4) 154 1 [.ref 112, .ref 3, .int x2, .int x3, .int x4, .int x5] (I, J, P, pm_T0, e) (.inl none) (q.2.1, q.2.2, P, pm_T0, e) := by
  obtain ⟨hp, hw1, hw2, hw3, hw4, hw5, hw6, hw7, hw8, hw9, hw10, hw11⟩ := id hw
  have hwa := hw5.1
  have hwb := hw6.1
  have hwc := hw7.1
  have hwd := hw8.1
  unfold f154 at h
  refine fn_v rc154 (c := 10) (nf := 3) (by first | rfl | assumption) ml154 rfl rfl rfl rfl ?_
  refine al1 c154_0 ?_
  refine r_ic c154_1 kI0 ?_
  obtain ⟨⟨v1, I2, J3⟩, e4, h⟩ := pm_bd_sp h
  dsimp only at h
  refine cv2 q154_2 (v := .int v1) (μ1 := (I2, J3, P, pm_T0, e)) (d36 hw e4) rfl ?_
  refine is6 c154_5 rfl ?_
  refine il2 c154_7 ?_
  refine is7 c154_8 rfl ?_
  refine al0 c154_10 ?_
  refine r_ic c154_11 kI0 ?_
  refine w_pi p154_12 (by first | rfl | assumption) rfl ?_
  rw [pm_lt_eq] at h
  generalize pm_w I2 112 0 0 = I5 at h ⊢
  refine al0 c154_15 ?_
  refine r_ic c154_16 kI0 ?_
  refine w_pi p154_17 (by first | rfl | assumption) rfl ?_
  rw [pm_lt_eq] at h
  generalize pm_w I5 112 2 0 = I6 at h ⊢
  refine al0 c154_20 ?_
  refine al1 c154_21 ?_
  refine cv1 q154_22 (s28 (hp _ _ _ rfl)) rfl ?_
  refine cv1 q154_25 (d108 hw rfl) rfl ?_
  refine w_pi p154_28 (by first | rfl | assumption) rfl ?_
  rw [pm_lt_eq] at h
  generalize pm_w I6 112 1 (v108  I6) = I7 at h ⊢
  refine r_ic c154_31 kI0 ?_
  refine is8 c154_32 rfl ?_
  exact d154_34 hw pm_FU h
def f161 (x1 : Int32) (x2 : Int32) (x3 : Int32) (x4 : Int32) (x5 : Int32) (I : Nat → Nat → Int32) (J : Nat → Nat → Int64) : Option (Int32 × (Nat → Nat → Int32) × (Nat → Nat → Int64)) := (if (600 : Int32).toInt < ((I 1 1) + 20).toInt then some ((-1), I, J) else (f124 x1 I J).bind (fun (v2, I3, J4) => (f124 x2 I3 J4).bind (fun (v6, I7, J8) => (f124 x3 I7 J8).bind (fun (v10, I11, J12) => (f124 x4 I11 J12).bind (fun (v14, I15, J16) => (f124 x5 I15 J16).bind (fun (v18, I19, J20) => some (I19 1 1, I19, J20)))))))
theorem d161 {X : (Nat → Int32) × Nat} {d : Nat} {I : Nat → Nat → Int32} {J : Nat → Nat → Int64} {P : Nat → Nat → Value} {e r k r2 k2 : Nat} {x1 : Int32} {x2 : Int32} {x3 : Int32} {x4 : Int32} {x5 : Int32} {q : Int32 × (Nat → Nat → Int32) × (Nat → Nat → Int64)} (hw : pm_W P r k r2 k2)  (h : f161 x1 x2 x3 x4 x5 I J = some q) : pm_Fn X (d + 2) 161 1 [.ref 0, .int x1, .int x2, .int x3, .int x4, .int x5] (I, J, P, pm_T0, e) (.inl (some (.int q.1))) (q.2.1, q.2.2, P, pm_T0, e) := by
  obtain ⟨hp, hw1, hw2, hw3, hw4, hw5, hw6, hw7, hw8, hw9, hw10, hw11⟩ := id hw
  have hwa := hw5.1
  have hwb := hw6.1
  have hwc := hw7.1
  have hwd := hw8.1
  unfold f161 at h
  refine fn_v rc161 (c := 11) (nf := 14) (by first | rfl | assumption) ml161 rfl rfl rfl rfl ?_
  refine al0 c161_0 ?_
  refine r_gr g161_1 (by first | rfl | assumption) rfl (by first | exact hp _ _ _ rfl | assumption) ?_
  refine cv1 q161_4 (s123 (by first | rfl | assumption)) rfl ?_
  refine r_bi c161_7 kB20 ?_
  refine r_iadd c161_9 ?_
  refine r_si c161_10 kS600 ?_
  refine r_icle (t := 18) c161_13 rfl (fun h1 => ?_) (fun h1 => ?_)
  · rw [if_neg (Int.not_lt.mpr h1)] at h
    refine al0 c161_18 ?_
    refine r_gr g161_19 (by first | rfl | assumption) rfl (by first | exact hp _ _ _ rfl | assumption) ?_
    refine il1 c161_22 ?_
    obtain ⟨⟨v2, I3, J4⟩, e5, h⟩ := pm_bd_sp h
    dsimp only at h
    refine cz2 q161_23 (μ1 := (I3, J4, P, pm_T0, e)) (d124 hw e5) rfl ?_
    refine al0 c161_26 ?_
    refine r_gr g161_27 (by first | rfl | assumption) rfl (by first | exact hp _ _ _ rfl | assumption) ?_
    refine il2 c161_30 ?_
    obtain ⟨⟨v6, I7, J8⟩, e9, h⟩ := pm_bd_sp h
    dsimp only at h
    refine cz2 q161_31 (μ1 := (I7, J8, P, pm_T0, e)) (d124 hw e9) rfl ?_
    refine al0 c161_34 ?_
    refine r_gr g161_35 (by first | rfl | assumption) rfl (by first | exact hp _ _ _ rfl | assumption) ?_
    refine il3 c161_38 ?_
    obtain ⟨⟨v10, I11, J12⟩, e13, h⟩ := pm_bd_sp h
    dsimp only at h
    refine cz2 q161_39 (μ1 := (I11, J12, P, pm_T0, e)) (d124 hw e13) rfl ?_
    refine al0 c161_42 ?_
    refine r_gr g161_43 (by first | rfl | assumption) rfl (by first | exact hp _ _ _ rfl | assumption) ?_
    refine il4 c161_46 ?_
    obtain ⟨⟨v14, I15, J16⟩, e17, h⟩ := pm_bd_sp h
    dsimp only at h
    refine cz2 q161_48 (μ1 := (I15, J16, P, pm_T0, e)) (d124 hw e17) rfl ?_
    refine al0 c161_51 ?_
    refine r_gr g161_52 (by first | rfl | assumption) rfl (by first | exact hp _ _ _ rfl | assumption) ?_
    refine il5 c161_55 ?_
    obtain ⟨⟨v18, I19, J20⟩, e21, h⟩ := pm_bd_sp h
    dsimp only at h
    refine cz2 q161_57 (μ1 := (I19, J20, P, pm_T0, e)) (d124 hw e21) rfl ?_
    refine al0 c161_60 ?_
    refine r_gr g161_61 (by first | rfl | assumption) rfl (by first | exact hp _ _ _ rfl | assumption) ?_
    refine cv1 q161_64 (s123 (by first | rfl | assumption)) rfl ?_
    cases h
    exact r_ri c161_67 rt161 rfl rfl
  · rw [if_pos h1] at h
    refine r_ic c161_16 kIm1 ?_
    cases h
    exact r_ri c161_17 rt161 rfl rfl
def v162  (I : Nat → Nat → Int32) : Int32 := I 1 8
theorem d162 {X : (Nat → Int32) × Nat} {d : Nat} {I : Nat → Nat → Int32} {J : Nat → Nat → Int64} {P : Nat → Nat → Value} {e r k r2 k2 : Nat}  {q : Int32} (hw : pm_W P r k r2 k2)  (h : v162  I = q) : pm_Fn X (d + 2) 162 1 [.ref 0] (I, J, P, pm_T0, e) (.inl (some (.int q))) (I, J, P, pm_T0, e) := by
  obtain ⟨hp, hw1, hw2, hw3, hw4, hw5, hw6, hw7, hw8, hw9, hw10, hw11⟩ := id hw
  have hwa := hw5.1
  have hwb := hw6.1
  have hwc := hw7.1
  have hwd := hw8.1
  unfold v162 at h
  refine fn_v rc162 (c := 11) (nf := 14) (by first | rfl | assumption) ml162 rfl rfl rfl rfl ?_
  refine al0 c162_0 ?_
  refine r_gr g162_1 (by first | rfl | assumption) rfl (by first | exact hp _ _ _ rfl | assumption) ?_
  refine cv1 q162_4 (s125 (by first | rfl | assumption)) rfl ?_
  cases h
  exact r_ri c162_7 rt162 rfl rfl
def f163  (I : Nat → Nat → Int32) (J : Nat → Nat → Int64) : Option (Int32 × (Nat → Nat → Int32) × (Nat → Nat → Int64)) := (if 0 < (I 23 3).toInt then (f2  I J).bind (fun (v2, I3, J4) => pm_lt (pm_w I3 0 11 0) (fun I6 => some (I6 23 3, I6, J4))) else some ((-1), I, J))
theorem d163 {X : (Nat → Int32) × Nat} {d : Nat} {I : Nat → Nat → Int32} {J : Nat → Nat → Int64} {P : Nat → Nat → Value} {e r k r2 k2 : Nat}  {q : Int32 × (Nat → Nat → Int32) × (Nat → Nat → Int64)} (hw : pm_W P r k r2 k2)  (h : f163  I J = some q) : pm_Fn X (d + 4) 163 1 [.ref 0] (I, J, P, pm_T0, e) (.inl (some (.int q.1))) (q.2.1, q.2.2, P, pm_T0, e) := by
  obtain ⟨hp, hw1, hw2, hw3, hw4, hw5, hw6, hw7, hw8, hw9, hw10, hw11⟩ := id hw
  have hwa := hw5.1
  have hwb := hw6.1
  have hwc := hw7.1
  have hwd := hw8.1
  unfold f163 at h
  refine fn_v rc163 (c := 11) (nf := 14) (by first | rfl | assumption) ml163 rfl rfl rfl rfl ?_
  refine al0 c163_0 ?_
  refine r_gr g163_1 (by first | rfl | assumption) rfl (by first | exact hp _ _ _ rfl | assumption) ?_
  refine cv1 q163_4 (s1 (by first | rfl | assumption)) rfl ?_
  refine r_ifgt (t := 12) c163_7 rfl (fun h1 => ?_) (fun h1 => ?_)
  · rw [if_pos h1] at h
    refine al0 c163_12 ?_
    refine r_gr g163_13 (by first | rfl | assumption) rfl (by first | exact hp _ _ _ rfl | assumption) ?_
    refine al0 c163_16 ?_
    refine r_gr g163_17 (by first | rfl | assumption) rfl (by first | exact hp _ _ _ rfl | assumption) ?_
    refine cv1 q163_20 (s28 (hp _ _ _ rfl)) rfl ?_
    obtain ⟨⟨v2, I3, J4⟩, e5, h⟩ := pm_bd_sp h
    dsimp only at h
    refine cz2 q163_23 (μ1 := (I3, J4, P, pm_T0, e)) (d2 hw e5) rfl ?_
    refine al0 c163_26 ?_
    refine r_ic c163_27 kI0 ?_
    refine w_pi p163_28 (by first | rfl | assumption) rfl ?_
    rw [pm_lt_eq] at h
    generalize pm_w I3 0 11 0 = I6 at h ⊢
    refine al0 c163_31 ?_
    refine r_gr g163_32 (by first | rfl | assumption) rfl (by first | exact hp _ _ _ rfl | assumption) ?_
    refine cv1 q163_35 (s1 (by first | rfl | assumption)) rfl ?_
    cases h
    exact r_ri c163_38 rt163 rfl rfl
  · rw [if_neg (Int.not_lt.mpr h1)] at h
    refine r_ic c163_10 kIm1 ?_
    cases h
    exact r_ri c163_11 rt163 rfl rfl
def f165 (r : Nat)  (I : Nat → Nat → Int32) (J : Nat → Nat → Int64) : Option (Int32 × (Nat → Nat → Int32) × (Nat → Nat → Int64)) := (f29 r I J).bind (fun (v1, I2, J3) => some (v1, I2, J3))
theorem d165 {X : (Nat → Int32) × Nat} {d : Nat} {I : Nat → Nat → Int32} {J : Nat → Nat → Int64} {P : Nat → Nat → Value} {e r k r2 k2 : Nat}  {q : Int32 × (Nat → Nat → Int32) × (Nat → Nat → Int64)} (hw : pm_W P r k r2 k2)  (h : f165 r I J = some q) : pm_Fn X (d + 5) 165 1 [.ref 0] (I, J, P, pm_T0, e) (.inl (some (.int q.1))) (q.2.1, q.2.2, P, pm_T0, e) := by
  obtain ⟨hp, hw1, hw2, hw3, hw4, hw5, hw6, hw7, hw8, hw9, hw10, hw11⟩ := id hw
  have hwa := hw5.1
  have hwb := hw6.1
  have hwc := hw7.1
  have hwd := hw8.1
  unfold f165 at h
  refine fn_v rc165 (c := 11) (nf := 14) (by first | rfl | assumption) ml165 rfl rfl rfl rfl ?_
  refine al0 c165_0 ?_
  refine r_gr g165_1 (by first | rfl | assumption) rfl (by first | exact hp _ _ _ rfl | assumption) ?_
  obtain ⟨⟨v1, I2, J3⟩, e4, h⟩ := pm_bd_sp h
  dsimp only at h
  refine cv1 q165_4 (v := .int v1) (μ1 := (I2, J3, P, pm_T0, e)) (d29 hw e4) rfl ?_
  cases h
  exact r_ri c165_7 rt165 rfl rfl
def f166 (r : Nat)  (I : Nat → Nat → Int32) (J : Nat → Nat → Int64) : Option (Int32 × (Nat → Nat → Int32) × (Nat → Nat → Int64)) := (f34 r I J).bind (fun (v1, I2, J3) => some (v1, I2, J3))
theorem d166 {X : (Nat → Int32) × Nat} {d : Nat} {I : Nat → Nat → Int32} {J : Nat → Nat → Int64} {P : Nat → Nat → Value} {e r k r2 k2 : Nat}  {q : Int32 × (Nat → Nat → Int32) × (Nat → Nat → Int64)} (hw : pm_W P r k r2 k2)  (h : f166 r I J = some q) : pm_Fn X (d + 5) 166 1 [.ref 0] (I, J, P, pm_T0, e) (.inl (some (.int q.1))) (q.2.1, q.2.2, P, pm_T0, e) := by
  obtain ⟨hp, hw1, hw2, hw3, hw4, hw5, hw6, hw7, hw8, hw9, hw10, hw11⟩ := id hw
  have hwa := hw5.1
  have hwb := hw6.1
  have hwc := hw7.1
  have hwd := hw8.1
  unfold f166 at h
  refine fn_v rc166 (c := 11) (nf := 14) (by first | rfl | assumption) ml166 rfl rfl rfl rfl ?_
  refine al0 c166_0 ?_
  refine r_gr g166_1 (by first | rfl | assumption) rfl (by first | exact hp _ _ _ rfl | assumption) ?_
  obtain ⟨⟨v1, I2, J3⟩, e4, h⟩ := pm_bd_sp h
  dsimp only at h
  refine cv1 q166_4 (v := .int v1) (μ1 := (I2, J3, P, pm_T0, e)) (d34 hw e4) rfl ?_
  cases h
  exact r_ri c166_7 rt166 rfl rfl
def f167 (r : Nat)  (I : Nat → Nat → Int32) (J : Nat → Nat → Int64) : Option (Int32 × (Nat → Nat → Int32) × (Nat → Nat → Int64)) := (f36 r 0 I J).bind (fun (v1, I2, J3) => (if 0 < v1.toInt then pm_gd (!decide (v1 = 0)) ((if (99 : Int32).toInt < ((v108  I2) / v1).toInt then some ((-1), I2, J3) else some ((v108  I2) / v1, I2, J3))) else some ((-1), I2, J3)))
theorem d167 {X : (Nat → Int32) × Nat} {d : Nat} {I : Nat → Nat → Int32} {J : Nat → Nat → Int64} {P : Nat → Nat → Value} {e r k r2 k2 : Nat}  {q : Int32 × (Nat → Nat → Int32) × (Nat → Nat → Int64)} (hw : pm_W P r k r2 k2)  (h : f167 r I J = some q) : pm_Fn X (d + 4) 167 1 [.ref 0] (I, J, P, pm_T0, e) (.inl (some (.int q.1))) (q.2.1, q.2.2, P, pm_T0, e) := by
  obtain ⟨hp, hw1, hw2, hw3, hw4, hw5, hw6, hw7, hw8, hw9, hw10, hw11⟩ := id hw
  have hwa := hw5.1
  have hwb := hw6.1
  have hwc := hw7.1
  have hwd := hw8.1
  unfold f167 at h
  refine fn_v rc167 (c := 11) (nf := 14) (by first | rfl | assumption) ml167 rfl rfl rfl rfl ?_
  refine al0 c167_0 ?_
  refine r_gr g167_1 (by first | rfl | assumption) rfl (by first | exact hp _ _ _ rfl | assumption) ?_
  refine r_ic c167_4 kI0 ?_
  obtain ⟨⟨v1, I2, J3⟩, e4, h⟩ := pm_bd_sp h
  dsimp only at h
  refine cv2 q167_5 (v := .int v1) (μ1 := (I2, J3, P, pm_T0, e)) (d36 hw e4) rfl ?_
  refine is1 c167_8 rfl ?_
  refine il1 c167_9 ?_
  refine r_ifgt (t := 15) c167_10 rfl (fun h5 => ?_) (fun h5 => ?_)
  · rw [if_pos h5] at h
    refine al0 c167_15 ?_
    refine r_gr g167_16 (by first | rfl | assumption) rfl (by first | exact hp _ _ _ rfl | assumption) ?_
    refine cv1 q167_19 (s28 (hp _ _ _ rfl)) rfl ?_
    refine cv1 q167_22 (d108 hw rfl) rfl ?_
    refine il1 c167_25 ?_
    obtain ⟨g6, h⟩ := pm_gd_sp h
    refine r_idiv c167_26 (by simpa using g6) ?_
    refine is2 c167_27 rfl ?_
    refine il2 c167_28 ?_
    refine r_bi c167_29 kB99 ?_
    refine r_icgt (t := 38) c167_31 rfl (fun h7 => ?_) (fun h7 => ?_)
    · rw [if_pos h7] at h
      refine r_ic c167_38 kIm1 ?_
      cases h
      exact r_ri c167_39 rt167 rfl rfl
    · rw [if_neg (Int.not_lt.mpr h7)] at h
      refine il2 c167_34 ?_
      refine r_go (t := 39) c167_35 rfl ?_
      cases h
      exact r_ri c167_39 rt167 rfl rfl
  · rw [if_neg (Int.not_lt.mpr h5)] at h
    refine r_ic c167_13 kIm1 ?_
    cases h
    exact r_ri c167_14 rt167 rfl rfl
def f168  (I : Nat → Nat → Int32) (J : Nat → Nat → Int64) : Option (Int32 × (Nat → Nat → Int32) × (Nat → Nat → Int64)) := (if (I 23 4).toInt < (3 : Int32).toInt then (f4  I J).bind (fun (v2, I3, J4) => some (I3 23 4, I3, J4)) else some ((-1), I, J))
theorem d168 {X : (Nat → Int32) × Nat} {d : Nat} {I : Nat → Nat → Int32} {J : Nat → Nat → Int64} {P : Nat → Nat → Value} {e r k r2 k2 : Nat}  {q : Int32 × (Nat → Nat → Int32) × (Nat → Nat → Int64)} (hw : pm_W P r k r2 k2)  (h : f168  I J = some q) : pm_Fn X (d + 4) 168 1 [.ref 0] (I, J, P, pm_T0, e) (.inl (some (.int q.1))) (q.2.1, q.2.2, P, pm_T0, e) := by
  obtain ⟨hp, hw1, hw2, hw3, hw4, hw5, hw6, hw7, hw8, hw9, hw10, hw11⟩ := id hw
  have hwa := hw5.1
  have hwb := hw6.1
  have hwc := hw7.1
  have hwd := hw8.1
  unfold f168 at h
  refine fn_v rc168 (c := 11) (nf := 14) (by first | rfl | assumption) ml168 rfl rfl rfl rfl ?_
  refine al0 c168_0 ?_
  refine r_gr g168_1 (by first | rfl | assumption) rfl (by first | exact hp _ _ _ rfl | assumption) ?_
  refine cv1 q168_4 (s3 (by first | rfl | assumption)) rfl ?_
  refine r_ic c168_7 kI3 ?_
  refine r_iclt (t := 13) c168_8 rfl (fun h1 => ?_) (fun h1 => ?_)
  · rw [if_pos h1] at h
    refine al0 c168_13 ?_
    refine r_gr g168_14 (by first | rfl | assumption) rfl (by first | exact hp _ _ _ rfl | assumption) ?_
    refine al0 c168_17 ?_
    refine r_gr g168_18 (by first | rfl | assumption) rfl (by first | exact hp _ _ _ rfl | assumption) ?_
    refine cv1 q168_21 (s28 (hp _ _ _ rfl)) rfl ?_
    obtain ⟨⟨v2, I3, J4⟩, e5, h⟩ := pm_bd_sp h
    dsimp only at h
    refine cz2 q168_24 (μ1 := (I3, J4, P, pm_T0, e)) (d4 hw e5) rfl ?_
    refine al0 c168_27 ?_
    refine r_gr g168_28 (by first | rfl | assumption) rfl (by first | exact hp _ _ _ rfl | assumption) ?_
    refine cv1 q168_31 (s3 (by first | rfl | assumption)) rfl ?_
    cases h
    exact r_ri c168_34 rt168 rfl rfl
  · rw [if_neg (Int.not_lt.mpr h1)] at h
    refine r_ic c168_11 kIm1 ?_
    cases h
    exact r_ri c168_12 rt168 rfl rfl
def f169  (I : Nat → Nat → Int32) (J : Nat → Nat → Int64) : Option (Int32 × (Nat → Nat → Int32) × (Nat → Nat → Int64)) := (if 0 < (I 23 4).toInt then (f5  I J).bind (fun (v2, I3, J4) => pm_lt (pm_w I3 0 11 0) (fun I6 => some (I6 23 4, I6, J4))) else some ((-1), I, J))
theorem d169 {X : (Nat → Int32) × Nat} {d : Nat} {I : Nat → Nat → Int32} {J : Nat → Nat → Int64} {P : Nat → Nat → Value} {e r k r2 k2 : Nat}  {q : Int32 × (Nat → Nat → Int32) × (Nat → Nat → Int64)} (hw : pm_W P r k r2 k2)  (h : f169  I J = some q) : pm_Fn X (d + 4) 169 1 [.ref 0] (I, J, P, pm_T0, e) (.inl (some (.int q.1))) (q.2.1, q.2.2, P, pm_T0, e) := by
  obtain ⟨hp, hw1, hw2, hw3, hw4, hw5, hw6, hw7, hw8, hw9, hw10, hw11⟩ := id hw
  have hwa := hw5.1
  have hwb := hw6.1
  have hwc := hw7.1
  have hwd := hw8.1
  unfold f169 at h
  refine fn_v rc169 (c := 11) (nf := 14) (by first | rfl | assumption) ml169 rfl rfl rfl rfl ?_
  refine al0 c169_0 ?_
  refine r_gr g169_1 (by first | rfl | assumption) rfl (by first | exact hp _ _ _ rfl | assumption) ?_
  refine cv1 q169_4 (s3 (by first | rfl | assumption)) rfl ?_
  refine r_ifgt (t := 12) c169_7 rfl (fun h1 => ?_) (fun h1 => ?_)
  · rw [if_pos h1] at h
    refine al0 c169_12 ?_
    refine r_gr g169_13 (by first | rfl | assumption) rfl (by first | exact hp _ _ _ rfl | assumption) ?_
    refine al0 c169_16 ?_
    refine r_gr g169_17 (by first | rfl | assumption) rfl (by first | exact hp _ _ _ rfl | assumption) ?_
    refine cv1 q169_20 (s28 (hp _ _ _ rfl)) rfl ?_
    obtain ⟨⟨v2, I3, J4⟩, e5, h⟩ := pm_bd_sp h
    dsimp only at h
    refine cz2 q169_23 (μ1 := (I3, J4, P, pm_T0, e)) (d5 hw e5) rfl ?_
    refine al0 c169_26 ?_
    refine r_ic c169_27 kI0 ?_
    refine w_pi p169_28 (by first | rfl | assumption) rfl ?_
    rw [pm_lt_eq] at h
    generalize pm_w I3 0 11 0 = I6 at h ⊢
    refine al0 c169_31 ?_
    refine r_gr g169_32 (by first | rfl | assumption) rfl (by first | exact hp _ _ _ rfl | assumption) ?_
    refine cv1 q169_35 (s3 (by first | rfl | assumption)) rfl ?_
    cases h
    exact r_ri c169_38 rt169 rfl rfl
  · rw [if_neg (Int.not_lt.mpr h1)] at h
    refine r_ic c169_10 kIm1 ?_
    cases h
    exact r_ri c169_11 rt169 rfl rfl
def v170 (x1 : Int32) (I : Nat → Nat → Int32) : Int32 := (if x1 = 0 then I 0 12 else if x1 = 1 then I 0 13 else (-1))
theorem d170 {X : (Nat → Int32) × Nat} {d : Nat} {I : Nat → Nat → Int32} {J : Nat → Nat → Int64} {P : Nat → Nat → Value} {e r k r2 k2 : Nat} {x1 : Int32} {q : Int32} (hw : pm_W P r k r2 k2)  (h : v170 x1 I = q) : pm_Fn X (d) 170 1 [.ref 0, .int x1] (I, J, P, pm_T0, e) (.inl (some (.int q))) (I, J, P, pm_T0, e) := by
  obtain ⟨hp, hw1, hw2, hw3, hw4, hw5, hw6, hw7, hw8, hw9, hw10, hw11⟩ := id hw
  have hwa := hw5.1
  have hwb := hw6.1
  have hwc := hw7.1
  have hwd := hw8.1
  unfold v170 at h
  refine fn_v rc170 (c := 11) (nf := 14) (by first | rfl | assumption) ml170 rfl rfl rfl rfl ?_
  refine il1 c170_0 ?_
  by_cases h1 : x1 = 0
  · rw [if_pos h1] at h
    refine r_lk (t := 28) (o := 27) c170_1 (by decide) (by rw [h1]; decide) rfl ?_
    refine al0 c170_28 ?_
    refine r_gi g170_29 (by first | rfl | assumption) rfl ?_
    cases h
    exact r_ri c170_32 rt170 rfl rfl
  · rw [if_neg h1] at h
    by_cases h2 : x1 = 1
    · rw [if_pos h2] at h
      refine r_lk (t := 33) (o := 32) c170_1 (by decide) (by rw [h2]; decide) rfl ?_
      refine al0 c170_33 ?_
      refine r_gi g170_34 (by first | rfl | assumption) rfl ?_
      cases h
      exact r_ri c170_37 rt170 rfl rfl
    · rw [if_neg h2] at h
      refine r_lk (t := 38) (o := 37) c170_1 (by decide) (pm_lkd x1 [0, 1] (by decide) (by intro v hv; simp only [List.mem_cons, List.not_mem_nil, or_false] at hv; rcases hv with rfl | rfl <;> assumption)) rfl ?_
      refine r_ic c170_38 kIm1 ?_
      cases h
      exact r_ri c170_39 rt170 rfl rfl
def v171 (x1 : Int32) (I : Nat → Nat → Int32) : Int32 := (if x1 = 0 then I 23 4 else if x1 = 1 then I 1 1 else if x1 = 2 then I 23 3 else (-1))
theorem d171 {X : (Nat → Int32) × Nat} {d : Nat} {I : Nat → Nat → Int32} {J : Nat → Nat → Int64} {P : Nat → Nat → Value} {e r k r2 k2 : Nat} {x1 : Int32} {q : Int32} (hw : pm_W P r k r2 k2)  (h : v171 x1 I = q) : pm_Fn X (d + 2) 171 1 [.ref 0, .int x1] (I, J, P, pm_T0, e) (.inl (some (.int q))) (I, J, P, pm_T0, e) := by
  obtain ⟨hp, hw1, hw2, hw3, hw4, hw5, hw6, hw7, hw8, hw9, hw10, hw11⟩ := id hw
  have hwa := hw5.1
  have hwb := hw6.1
  have hwc := hw7.1
  have hwd := hw8.1
  unfold v171 at h
  refine fn_v rc171 (c := 11) (nf := 14) (by first | rfl | assumption) ml171 rfl rfl rfl rfl ?_
  refine il1 c171_0 ?_
  by_cases h1 : x1 = 0
  · rw [if_pos h1] at h
    refine r_ts (t := 28) (o := 27) c171_1 (by rw [h1]; decide) rfl ?_
    refine al0 c171_28 ?_
    refine r_gr g171_29 (by first | rfl | assumption) rfl (by first | exact hp _ _ _ rfl | assumption) ?_
    refine cv1 q171_32 (s3 (by first | rfl | assumption)) rfl ?_
    cases h
    exact r_ri c171_35 rt171 rfl rfl
  · rw [if_neg h1] at h
    by_cases h2 : x1 = 1
    · rw [if_pos h2] at h
      refine r_ts (t := 36) (o := 35) c171_1 (by rw [h2]; decide) rfl ?_
      refine al0 c171_36 ?_
      refine r_gr g171_37 (by first | rfl | assumption) rfl (by first | exact hp _ _ _ rfl | assumption) ?_
      refine cv1 q171_40 (s123 (by first | rfl | assumption)) rfl ?_
      cases h
      exact r_ri c171_43 rt171 rfl rfl
    · rw [if_neg h2] at h
      by_cases h3 : x1 = 2
      · rw [if_pos h3] at h
        refine r_ts (t := 44) (o := 43) c171_1 (by rw [h3]; decide) rfl ?_
        refine al0 c171_44 ?_
        refine r_gr g171_45 (by first | rfl | assumption) rfl (by first | exact hp _ _ _ rfl | assumption) ?_
        refine cv1 q171_48 (s1 (by first | rfl | assumption)) rfl ?_
        cases h
        exact r_ri c171_51 rt171 rfl rfl
      · rw [if_neg h3] at h
        refine r_ts (t := 52) (o := 51) c171_1 (pm_tsd x1 [0, 1, 2] (by decide) (by intro v hv; simp only [List.mem_cons, List.not_mem_nil, or_false] at hv; rcases hv with rfl | rfl | rfl <;> assumption)) rfl ?_
        refine r_ic c171_52 kIm1 ?_
        cases h
        exact r_ri c171_53 rt171 rfl rfl
def v200 (x0 : Int32) (I : Nat → Nat → Int32) : Bool := (if x0.toInt < (1 : Int32).toInt then false else (if (9 : Int32).toInt < x0.toInt then false else (if (x0 &&& 1) = 1 then true else false)))
theorem d200 {X : (Nat → Int32) × Nat} {d : Nat} {I : Nat → Nat → Int32} {J : Nat → Nat → Int64} {P : Nat → Nat → Value} {e r k r2 k2 : Nat} {x0 : Int32} {q : Bool} (hw : pm_W P r k r2 k2)  (h : v200 x0 I = q) : pm_Fn X (d) 200 0 [.int x0] (I, J, P, pm_T0, e) (.inl (some (.int (pm_bi q)))) (I, J, P, pm_T0, e) := by
  obtain ⟨hp, hw1, hw2, hw3, hw4, hw5, hw6, hw7, hw8, hw9, hw10, hw11⟩ := id hw
  have hwa := hw5.1
  have hwb := hw6.1
  have hwc := hw7.1
  have hwd := hw8.1
  unfold v200 at h
  refine fn_s ml200 rfl rfl rfl ?_
  refine il0 c200_0 ?_
  refine r_ic c200_1 kI1 ?_
  refine r_iclt (t := 22) c200_2 rfl (fun h1 => ?_) (fun h1 => ?_)
  · rw [if_pos h1] at h
    refine r_ic c200_22 kI0 ?_
    cases h
    exact r_rz c200_23 rt200 (by decide) rfl rfl
  · rw [if_neg (Int.not_lt.mpr h1)] at h
    refine il0 c200_5 ?_
    refine r_bi c200_6 kB9 ?_
    refine r_icgt (t := 22) c200_8 rfl (fun h2 => ?_) (fun h2 => ?_)
    · rw [if_pos h2] at h
      refine r_ic c200_22 kI0 ?_
      cases h
      exact r_rz c200_23 rt200 (by decide) rfl rfl
    · rw [if_neg (Int.not_lt.mpr h2)] at h
      refine il0 c200_11 ?_
      refine r_ic c200_12 kI1 ?_
      refine r_iand c200_13 ?_
      refine r_ic c200_14 kI1 ?_
      refine r_icne (t := 22) c200_15 rfl (fun h3 => ?_) (fun h3 => ?_)
      · rw [if_neg h3] at h
        refine r_ic c200_22 kI0 ?_
        cases h
        exact r_rz c200_23 rt200 (by decide) rfl rfl
      · rw [if_pos h3] at h
        refine r_ic c200_18 kI1 ?_
        refine r_go (t := 23) c200_19 rfl ?_
        cases h
        exact r_rz c200_23 rt200 (by decide) rfl rfl
def f202_5  : Nat → Int32 → Int32 → Int64 → Int32 → (Nat → Nat → Int32) → (Nat → Nat → Int64) → Option (Int64 × (Nat → Nat → Int32) × (Nat → Nat → Int64))
  | 0, _, _, _, _, _, _ => none
  | fu + 1, y0, y1, y2, y4, I, J => (if y1.toInt < y4.toInt then some (y2, I, J) else pm_gd (!decide (y4.toInt64 = 0)) (f202_5 fu y0 y1 ((y2 * (((y0 - y4) + 1).toInt64)) / y4.toInt64) (y4 + 1) I J))
def f202 (x0 : Int32) (x1 : Int32) (I : Nat → Nat → Int32) (J : Nat → Nat → Int64) : Option (Int64 × (Nat → Nat → Int32) × (Nat → Nat → Int64)) := f202_5 pm_FU x0 x1 1 1 I J
theorem d202_5 {X : (Nat → Int32) × Nat} {d : Nat} {P : Nat → Nat → Value} {e r k r2 k2 : Nat}  (hw : pm_W P r k r2 k2)  : ∀ (fu : Nat) {y0 y1 y4 : Int32} {y2 : Int64} {I : Nat → Nat → Int32} {J : Nat → Nat → Int64} {q : Int64 × (Nat → Nat → Int32) × (Nat → Nat → Int64)} (h : f202_5 fu y0 y1 y2 y4 I J = some q), pm_Fx X (d) 202 5 [.int y0, .int y1, .long y2, pm_jk, .int y4] [] (I, J, P, pm_T0, e) (.inl (some (.long q.1))) (q.2.1, q.2.2, P, pm_T0, e) := by
  obtain ⟨hp, hw1, hw2, hw3, hw4, hw5, hw6, hw7, hw8, hw9, hw10, hw11⟩ := id hw
  have hwa := hw5.1
  have hwb := hw6.1
  have hwc := hw7.1
  have hwd := hw8.1
  intro fu
  induction fu with
  | zero => intro y0 y1 y4 y2 I J q h; cases h
  | succ fu ih =>
    intro y0 y1 y4 y2 I J q h
    rw [f202_5] at h
    refine il4 c202_5 ?_
    refine il1 c202_7 ?_
    refine r_icgt (t := 31) c202_8 rfl (fun h1 => ?_) (fun h1 => ?_)
    · rw [if_pos h1] at h
      refine ll2 c202_31 ?_
      cases h
      exact r_rl c202_32 rt202 rfl rfl
    · rw [if_neg (Int.not_lt.mpr h1)] at h
      refine ll2 c202_11 ?_
      refine il0 c202_12 ?_
      refine il4 c202_13 ?_
      refine r_isub c202_15 ?_
      refine r_ic c202_16 kI1 ?_
      refine r_iadd c202_17 ?_
      refine r_i2l c202_18 ?_
      refine r_lmul c202_19 ?_
      refine il4 c202_20 ?_
      refine r_i2l c202_22 ?_
      obtain ⟨g2, h⟩ := pm_gd_sp h
      refine r_ldiv c202_23 (by simpa using g2) ?_
      refine ls2 c202_24 rfl ?_
      refine ii4 c202_25 kI1 rfl ?_
      refine r_go (t := 5) c202_28 rfl ?_
      exact ih h
theorem d202 {X : (Nat → Int32) × Nat} {d : Nat} {I : Nat → Nat → Int32} {J : Nat → Nat → Int64} {P : Nat → Nat → Value} {e r k r2 k2 : Nat} {x0 : Int32} {x1 : Int32} {q : Int64 × (Nat → Nat → Int32) × (Nat → Nat → Int64)} (hw : pm_W P r k r2 k2)  (h : f202 x0 x1 I J = some q) : pm_Fn X (d) 202 0 [.int x0, .int x1] (I, J, P, pm_T0, e) (.inl (some (.long q.1))) (q.2.1, q.2.2, P, pm_T0, e) := by
  obtain ⟨hp, hw1, hw2, hw3, hw4, hw5, hw6, hw7, hw8, hw9, hw10, hw11⟩ := id hw
  have hwa := hw5.1
  have hwb := hw6.1
  have hwc := hw7.1
  have hwd := hw8.1
  unfold f202 at h
  refine fn_s ml202 rfl rfl rfl ?_
  refine r_lc c202_0 kL1 ?_
  refine ls2 c202_1 rfl ?_
  refine r_ic c202_2 kI1 ?_
  refine is4 c202_3 rfl ?_
  exact d202_5 hw pm_FU h
def f203_5  : Nat → Int32 → Int32 → Int64 → Int32 → (Nat → Nat → Int32) → (Nat → Nat → Int64) → Option (Int64 × (Nat → Nat → Int32) × (Nat → Nat → Int64))
  | 0, _, _, _, _, _, _ => none
  | fu + 1, y0, y1, y2, y4, I, J => (if y4.toInt < y1.toInt then f203_5 fu y0 y1 (y2 * y0.toInt64) (y4 + 1) I J else some (y2, I, J))
def f203 (x0 : Int32) (x1 : Int32) (I : Nat → Nat → Int32) (J : Nat → Nat → Int64) : Option (Int64 × (Nat → Nat → Int32) × (Nat → Nat → Int64)) := f203_5 pm_FU x0 x1 1 0 I J
theorem d203_5 {X : (Nat → Int32) × Nat} {d : Nat} {P : Nat → Nat → Value} {e r k r2 k2 : Nat}  (hw : pm_W P r k r2 k2)  : ∀ (fu : Nat) {y0 y1 y4 : Int32} {y2 : Int64} {I : Nat → Nat → Int32} {J : Nat → Nat → Int64} {q : Int64 × (Nat → Nat → Int32) × (Nat → Nat → Int64)} (h : f203_5 fu y0 y1 y2 y4 I J = some q), pm_Fx X (d) 203 5 [.int y0, .int y1, .long y2, pm_jk, .int y4] [] (I, J, P, pm_T0, e) (.inl (some (.long q.1))) (q.2.1, q.2.2, P, pm_T0, e) := by
  obtain ⟨hp, hw1, hw2, hw3, hw4, hw5, hw6, hw7, hw8, hw9, hw10, hw11⟩ := id hw
  have hwa := hw5.1
  have hwb := hw6.1
  have hwc := hw7.1
  have hwd := hw8.1
  intro fu
  induction fu with
  | zero => intro y0 y1 y4 y2 I J q h; cases h
  | succ fu ih =>
    intro y0 y1 y4 y2 I J q h
    rw [f203_5] at h
    refine il4 c203_5 ?_
    refine il1 c203_7 ?_
    refine r_icge (t := 22) c203_8 rfl (fun h1 => ?_) (fun h1 => ?_)
    · rw [if_neg (Int.not_lt.mpr h1)] at h
      refine ll2 c203_22 ?_
      cases h
      exact r_rl c203_23 rt203 rfl rfl
    · rw [if_pos h1] at h
      refine ll2 c203_11 ?_
      refine il0 c203_12 ?_
      refine r_i2l c203_13 ?_
      refine r_lmul c203_14 ?_
      refine ls2 c203_15 rfl ?_
      refine ii4 c203_16 kI1 rfl ?_
      refine r_go (t := 5) c203_19 rfl ?_
      exact ih h
theorem d203 {X : (Nat → Int32) × Nat} {d : Nat} {I : Nat → Nat → Int32} {J : Nat → Nat → Int64} {P : Nat → Nat → Value} {e r k r2 k2 : Nat} {x0 : Int32} {x1 : Int32} {q : Int64 × (Nat → Nat → Int32) × (Nat → Nat → Int64)} (hw : pm_W P r k r2 k2)  (h : f203 x0 x1 I J = some q) : pm_Fn X (d) 203 0 [.int x0, .int x1] (I, J, P, pm_T0, e) (.inl (some (.long q.1))) (q.2.1, q.2.2, P, pm_T0, e) := by
  obtain ⟨hp, hw1, hw2, hw3, hw4, hw5, hw6, hw7, hw8, hw9, hw10, hw11⟩ := id hw
  have hwa := hw5.1
  have hwb := hw6.1
  have hwc := hw7.1
  have hwd := hw8.1
  unfold f203 at h
  refine fn_s ml203 rfl rfl rfl ?_
  refine r_lc c203_0 kL1 ?_
  refine ls2 c203_1 rfl ?_
  refine r_ic c203_2 kI0 ?_
  refine is4 c203_3 rfl ?_
  exact d203_5 hw pm_FU h
def f201_9  : Nat → Int32 → Int32 → Int64 → Int32 → (Nat → Nat → Int32) → (Nat → Nat → Int64) → Option (Int64 × (Nat → Nat → Int32) × (Nat → Nat → Int64))
  | 0, _, _, _, _, _, _ => none
  | fu + 1, y0, y1, y2, y4, I, J => (if y0.toInt < y4.toInt then some (y2, I, J) else (f202 y0 y4 I J).bind (fun (v2, I3, J4) => (f203 y1 y4 I3 J4).bind (fun (v6, I7, J8) => (f203 (16 - y1) (y0 - y4) I7 J8).bind (fun (v10, I11, J12) => f201_9 fu y0 y1 (y2 + ((v2 * v6) * v10)) (y4 + 1) I11 J12))))
def f201 (x0 : Int32) (x1 : Int32) (I : Nat → Nat → Int32) (J : Nat → Nat → Int64) : Option (Int64 × (Nat → Nat → Int32) × (Nat → Nat → Int64)) := f201_9 pm_FU x0 x1 0 ((x0 / 2) + 1) I J
theorem d201_9 {X : (Nat → Int32) × Nat} {d : Nat} {P : Nat → Nat → Value} {e r k r2 k2 : Nat}  (hw : pm_W P r k r2 k2)  : ∀ (fu : Nat) {y0 y1 y4 : Int32} {y2 : Int64} {I : Nat → Nat → Int32} {J : Nat → Nat → Int64} {q : Int64 × (Nat → Nat → Int32) × (Nat → Nat → Int64)} (h : f201_9 fu y0 y1 y2 y4 I J = some q), pm_Fx X (d + 1) 201 9 [.int y0, .int y1, .long y2, pm_jk, .int y4] [] (I, J, P, pm_T0, e) (.inl (some (.long q.1))) (q.2.1, q.2.2, P, pm_T0, e) := by
  obtain ⟨hp, hw1, hw2, hw3, hw4, hw5, hw6, hw7, hw8, hw9, hw10, hw11⟩ := id hw
  have hwa := hw5.1
  have hwb := hw6.1
  have hwc := hw7.1
  have hwd := hw8.1
  intro fu
  induction fu with
  | zero => intro y0 y1 y4 y2 I J q h; cases h
  | succ fu ih =>
    intro y0 y1 y4 y2 I J q h
    rw [f201_9] at h
    refine il4 c201_9 ?_
    refine il0 c201_11 ?_
    refine r_icgt (t := 49) c201_12 rfl (fun h1 => ?_) (fun h1 => ?_)
    · rw [if_pos h1] at h
      refine ll2 c201_49 ?_
      cases h
      exact r_rl c201_50 rt201 rfl rfl
    · rw [if_neg (Int.not_lt.mpr h1)] at h
      refine ll2 c201_15 ?_
      refine il0 c201_16 ?_
      refine il4 c201_17 ?_
      obtain ⟨⟨v2, I3, J4⟩, e5, h⟩ := pm_bd_sp h
      dsimp only at h
      refine cv2 q201_19 (v := .long v2) (μ1 := (I3, J4, P, pm_T0, e)) (d202 hw e5) rfl ?_
      refine il1 c201_22 ?_
      refine il4 c201_23 ?_
      obtain ⟨⟨v6, I7, J8⟩, e9, h⟩ := pm_bd_sp h
      dsimp only at h
      refine cv2 q201_25 (v := .long v6) (μ1 := (I7, J8, P, pm_T0, e)) (d203 hw e9) rfl ?_
      refine r_lmul c201_28 ?_
      refine r_bi c201_29 kB16 ?_
      refine il1 c201_31 ?_
      refine r_isub c201_32 ?_
      refine il0 c201_33 ?_
      refine il4 c201_34 ?_
      refine r_isub c201_36 ?_
      obtain ⟨⟨v10, I11, J12⟩, e13, h⟩ := pm_bd_sp h
      dsimp only at h
      refine cv2 q201_37 (v := .long v10) (μ1 := (I11, J12, P, pm_T0, e)) (d203 hw e13) rfl ?_
      refine r_lmul c201_40 ?_
      refine r_ladd c201_41 ?_
      refine ls2 c201_42 rfl ?_
      refine ii4 c201_43 kI1 rfl ?_
      refine r_go (t := 9) c201_46 rfl ?_
      exact ih h
theorem d201 {X : (Nat → Int32) × Nat} {d : Nat} {I : Nat → Nat → Int32} {J : Nat → Nat → Int64} {P : Nat → Nat → Value} {e r k r2 k2 : Nat} {x0 : Int32} {x1 : Int32} {q : Int64 × (Nat → Nat → Int32) × (Nat → Nat → Int64)} (hw : pm_W P r k r2 k2)  (h : f201 x0 x1 I J = some q) : pm_Fn X (d + 1) 201 0 [.int x0, .int x1] (I, J, P, pm_T0, e) (.inl (some (.long q.1))) (q.2.1, q.2.2, P, pm_T0, e) := by
  obtain ⟨hp, hw1, hw2, hw3, hw4, hw5, hw6, hw7, hw8, hw9, hw10, hw11⟩ := id hw
  have hwa := hw5.1
  have hwb := hw6.1
  have hwc := hw7.1
  have hwd := hw8.1
  unfold f201 at h
  refine fn_s ml201 rfl rfl rfl ?_
  refine r_lc c201_0 kL0 ?_
  refine ls2 c201_1 rfl ?_
  refine il0 c201_2 ?_
  refine r_ic c201_3 kI2 ?_
  refine r_idiv c201_4 (by decide) ?_
  refine r_ic c201_5 kI1 ?_
  refine r_iadd c201_6 ?_
  refine is4 c201_7 rfl ?_
  exact d201_9 hw pm_FU h
def v208 (x0 : Int32) (x1 : Int32) (x2 : Int32) (I : Nat → Nat → Int32) : Int32 := (if x0.toInt < x1.toInt then 0 else (if x1.toInt < x0.toInt then x2 - x0 else (x2 - x0) / 2))
theorem d208 {X : (Nat → Int32) × Nat} {d : Nat} {I : Nat → Nat → Int32} {J : Nat → Nat → Int64} {P : Nat → Nat → Value} {e r k r2 k2 : Nat} {x0 : Int32} {x1 : Int32} {x2 : Int32} {q : Int32} (hw : pm_W P r k r2 k2)  (h : v208 x0 x1 x2 I = q) : pm_Fn X (d) 208 0 [.int x0, .int x1, .int x2] (I, J, P, pm_T0, e) (.inl (some (.int q))) (I, J, P, pm_T0, e) := by
  obtain ⟨hp, hw1, hw2, hw3, hw4, hw5, hw6, hw7, hw8, hw9, hw10, hw11⟩ := id hw
  have hwa := hw5.1
  have hwb := hw6.1
  have hwc := hw7.1
  have hwd := hw8.1
  unfold v208 at h
  refine fn_s ml208 rfl rfl rfl ?_
  refine il0 c208_0 ?_
  refine il1 c208_1 ?_
  refine r_icge (t := 7) c208_2 rfl (fun h1 => ?_) (fun h1 => ?_)
  · rw [if_neg (Int.not_lt.mpr h1)] at h
    refine il0 c208_7 ?_
    refine il1 c208_8 ?_
    refine r_icle (t := 18) c208_9 rfl (fun h2 => ?_) (fun h2 => ?_)
    · rw [if_neg (Int.not_lt.mpr h2)] at h
      refine il2 c208_18 ?_
      refine il0 c208_19 ?_
      refine r_isub c208_20 ?_
      refine r_ic c208_21 kI2 ?_
      refine r_idiv c208_22 (by decide) ?_
      cases h
      exact r_ri c208_23 rt208 rfl rfl
    · rw [if_pos h2] at h
      refine il2 c208_12 ?_
      refine il0 c208_13 ?_
      refine r_isub c208_14 ?_
      refine r_go (t := 23) c208_15 rfl ?_
      cases h
      exact r_ri c208_23 rt208 rfl rfl
  · rw [if_pos h1] at h
    refine r_ic c208_5 kI0 ?_
    cases h
    exact r_ri c208_6 rt208 rfl rfl
def v209 (x0 : Int32) (x1 : Int32) (x2 : Int32) (I : Nat → Nat → Int32) : Int32 := (if 0 < x1.toInt then (if x1.toInt < x0.toInt then pm_max (pm_max (v208 x1 x1 x2 I) 0) (v208 (x1 + 1) x1 x2 I) else pm_max (v208 x1 x1 x2 I) 0) else (if x1.toInt < x0.toInt then pm_max (v208 x1 x1 x2 I) (v208 (x1 + 1) x1 x2 I) else v208 x1 x1 x2 I))
theorem d209 {X : (Nat → Int32) × Nat} {d : Nat} {I : Nat → Nat → Int32} {J : Nat → Nat → Int64} {P : Nat → Nat → Value} {e r k r2 k2 : Nat} {x0 : Int32} {x1 : Int32} {x2 : Int32} {q : Int32} (hw : pm_W P r k r2 k2)  (h : v209 x0 x1 x2 I = q) : pm_Fn X (d + 1) 209 0 [.int x0, .int x1, .int x2] (I, J, P, pm_T0, e) (.inl (some (.int q))) (I, J, P, pm_T0, e) := by
  obtain ⟨hp, hw1, hw2, hw3, hw4, hw5, hw6, hw7, hw8, hw9, hw10, hw11⟩ := id hw
  have hwa := hw5.1
  have hwb := hw6.1
  have hwc := hw7.1
  have hwd := hw8.1
  unfold v209 at h
  refine fn_s ml209 rfl rfl rfl ?_
  refine il1 c209_0 ?_
  refine il1 c209_1 ?_
  refine il2 c209_2 ?_
  refine cv3 q209_3 (d208 hw rfl) rfl ?_
  refine is3 c209_6 rfl ?_
  refine il1 c209_7 ?_
  refine r_ifle (t := 17) c209_8 rfl (fun h1 => ?_) (fun h1 => ?_)
  · rw [if_neg (Int.not_lt.mpr h1)] at h
    refine il1 c209_17 ?_
    refine il0 c209_18 ?_
    refine r_icge (t := 35) c209_19 rfl (fun h2 => ?_) (fun h2 => ?_)
    · rw [if_neg (Int.not_lt.mpr h2)] at h
      refine il3 c209_35 ?_
      cases h
      exact r_ri c209_36 rt209 rfl rfl
    · rw [if_pos h2] at h
      refine il3 c209_22 ?_
      refine il1 c209_23 ?_
      refine r_ic c209_24 kI1 ?_
      refine r_iadd c209_25 ?_
      refine il1 c209_26 ?_
      refine il2 c209_27 ?_
      refine cv3 q209_28 (d208 hw rfl) rfl ?_
      refine cv2 q209_31 s362 rfl ?_
      refine is3 c209_34 rfl ?_
      refine il3 c209_35 ?_
      cases h
      exact r_ri c209_36 rt209 rfl rfl
  · rw [if_pos h1] at h
    refine il3 c209_11 ?_
    refine r_ic c209_12 kI0 ?_
    refine cv2 q209_13 s362 rfl ?_
    refine is3 c209_16 rfl ?_
    refine il1 c209_17 ?_
    refine il0 c209_18 ?_
    refine r_icge (t := 35) c209_19 rfl (fun h3 => ?_) (fun h3 => ?_)
    · rw [if_neg (Int.not_lt.mpr h3)] at h
      refine il3 c209_35 ?_
      cases h
      exact r_ri c209_36 rt209 rfl rfl
    · rw [if_pos h3] at h
      refine il3 c209_22 ?_
      refine il1 c209_23 ?_
      refine r_ic c209_24 kI1 ?_
      refine r_iadd c209_25 ?_
      refine il1 c209_26 ?_
      refine il2 c209_27 ?_
      refine cv3 q209_28 (d208 hw rfl) rfl ?_
      refine cv2 q209_31 s362 rfl ?_
      refine is3 c209_34 rfl ?_
      refine il3 c209_35 ?_
      cases h
      exact r_ri c209_36 rt209 rfl rfl
def v212 (x0 : Int32) (x1 : Int32) (x2 : Int32) (I : Nat → Nat → Int32) : Bool := (if x0.toInt < 0 then false else (if (16 : Int32).toInt < x0.toInt then false else (if x1.toInt < 0 then false else (if (40 : Int32).toInt < x1.toInt then false else (if x2.toInt < (1 : Int32).toInt then false else (if (99 : Int32).toInt < x2.toInt then false else true))))))
theorem d212 {X : (Nat → Int32) × Nat} {d : Nat} {I : Nat → Nat → Int32} {J : Nat → Nat → Int64} {P : Nat → Nat → Value} {e r k r2 k2 : Nat} {x0 : Int32} {x1 : Int32} {x2 : Int32} {q : Bool} (hw : pm_W P r k r2 k2)  (h : v212 x0 x1 x2 I = q) : pm_Fn X (d) 212 0 [.int x0, .int x1, .int x2] (I, J, P, pm_T0, e) (.inl (some (.int (pm_bi q)))) (I, J, P, pm_T0, e) := by
  obtain ⟨hp, hw1, hw2, hw3, hw4, hw5, hw6, hw7, hw8, hw9, hw10, hw11⟩ := id hw
  have hwa := hw5.1
  have hwb := hw6.1
  have hwc := hw7.1
  have hwd := hw8.1
  unfold v212 at h
  refine fn_s ml212 rfl rfl rfl ?_
  refine il0 c212_0 ?_
  refine r_iflt (t := 35) c212_1 rfl (fun h1 => ?_) (fun h1 => ?_)
  · rw [if_pos h1] at h
    refine r_ic c212_35 kI0 ?_
    cases h
    exact r_rz c212_36 rt212 (by decide) rfl rfl
  · rw [if_neg (Int.not_lt.mpr h1)] at h
    refine il0 c212_4 ?_
    refine r_bi c212_5 kB16 ?_
    refine r_icgt (t := 35) c212_7 rfl (fun h2 => ?_) (fun h2 => ?_)
    · rw [if_pos h2] at h
      refine r_ic c212_35 kI0 ?_
      cases h
      exact r_rz c212_36 rt212 (by decide) rfl rfl
    · rw [if_neg (Int.not_lt.mpr h2)] at h
      refine il1 c212_10 ?_
      refine r_iflt (t := 35) c212_11 rfl (fun h3 => ?_) (fun h3 => ?_)
      · rw [if_pos h3] at h
        refine r_ic c212_35 kI0 ?_
        cases h
        exact r_rz c212_36 rt212 (by decide) rfl rfl
      · rw [if_neg (Int.not_lt.mpr h3)] at h
        refine il1 c212_14 ?_
        refine r_bi c212_15 kB40 ?_
        refine r_icgt (t := 35) c212_17 rfl (fun h4 => ?_) (fun h4 => ?_)
        · rw [if_pos h4] at h
          refine r_ic c212_35 kI0 ?_
          cases h
          exact r_rz c212_36 rt212 (by decide) rfl rfl
        · rw [if_neg (Int.not_lt.mpr h4)] at h
          refine il2 c212_20 ?_
          refine r_ic c212_21 kI1 ?_
          refine r_iclt (t := 35) c212_22 rfl (fun h5 => ?_) (fun h5 => ?_)
          · rw [if_pos h5] at h
            refine r_ic c212_35 kI0 ?_
            cases h
            exact r_rz c212_36 rt212 (by decide) rfl rfl
          · rw [if_neg (Int.not_lt.mpr h5)] at h
            refine il2 c212_25 ?_
            refine r_bi c212_26 kB99 ?_
            refine r_icgt (t := 35) c212_28 rfl (fun h6 => ?_) (fun h6 => ?_)
            · rw [if_pos h6] at h
              refine r_ic c212_35 kI0 ?_
              cases h
              exact r_rz c212_36 rt212 (by decide) rfl rfl
            · rw [if_neg (Int.not_lt.mpr h6)] at h
              refine r_ic c212_31 kI1 ?_
              refine r_go (t := 36) c212_32 rfl ?_
              cases h
              exact r_rz c212_36 rt212 (by decide) rfl rfl
def f216  (I : Nat → Nat → Int32) (J : Nat → Nat → Int64) : Option (Unit × (Nat → Nat → Int32) × (Nat → Nat → Int64)) := pm_lt (pm_w I 127 14 0) (fun I1 => pm_lt (pm_w I1 127 15 0) (fun I2 => pm_lt (pm_w I2 127 16 60) (fun I3 => pm_lt (pm_w I3 127 17 8) (fun I4 => some ((), I4, J)))))
theorem d216 {X : (Nat → Int32) × Nat} {d : Nat} {I : Nat → Nat → Int32} {J : Nat → Nat → Int64} {P : Nat → Nat → Value} {e r k r2 k2 : Nat}  {q : Unit × (Nat → Nat → Int32) × (Nat → Nat → Int64)} (hw : pm_W P r k r2 k2)  (h : f216  I J = some q) : pm_Fn X (d) 216 1 [.ref 127] (I, J, P, pm_T0, e) (.inl none) (q.2.1, q.2.2, P, pm_T0, e) := by
  obtain ⟨hp, hw1, hw2, hw3, hw4, hw5, hw6, hw7, hw8, hw9, hw10, hw11⟩ := id hw
  have hwa := hw5.1
  have hwb := hw6.1
  have hwc := hw7.1
  have hwd := hw8.1
  unfold f216 at h
  refine fn_v rc216 (c := 12) (nf := 59) (by first | rfl | assumption) ml216 rfl rfl rfl rfl ?_
  refine al0 c216_0 ?_
  refine r_ic c216_1 kI0 ?_
  refine w_pi p216_2 (by first | rfl | assumption) rfl ?_
  rw [pm_lt_eq] at h
  generalize pm_w I 127 14 0 = I1 at h ⊢
  refine al0 c216_5 ?_
  refine r_ic c216_6 kI0 ?_
  refine w_pi p216_7 (by first | rfl | assumption) rfl ?_
  rw [pm_lt_eq] at h
  generalize pm_w I1 127 15 0 = I2 at h ⊢
  refine al0 c216_10 ?_
  refine r_bi c216_11 kB60 ?_
  refine w_pi p216_13 (by first | rfl | assumption) rfl ?_
  rw [pm_lt_eq] at h
  generalize pm_w I2 127 16 60 = I3 at h ⊢
  refine al0 c216_16 ?_
  refine r_bi c216_17 kB8 ?_
  refine w_pi p216_19 (by first | rfl | assumption) rfl ?_
  rw [pm_lt_eq] at h
  generalize pm_w I3 127 17 8 = I4 at h ⊢
  cases h
  exact r_rv c216_22 rt216 rfl
