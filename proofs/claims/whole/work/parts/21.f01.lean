/-! THE METHODS AS FUNCTIONS OF THE MEMORY (written by dec.py) -/
def f26 (a0 : Nat) (a1 : Nat) (I : Nat → Nat → Int32) (J : Nat → Nat → Int64) : Option (Unit × (Nat → Nat → Int32) × (Nat → Nat → Int64)) := pm_lt (pm_cpw I (a1 + 1) (a0 + 1) (min 150 150)) (fun I1 => pm_lt (pm_w I1 a0 2 (I1 a1 2)) (fun I2 => some ((), I2, J)))
theorem d26 {X : (Nat → Int32) × Nat} {d : Nat} {I : Nat → Nat → Int32} {J : Nat → Nat → Int64} {P : Nat → Nat → Value} {e r k r2 k2 : Nat} {a0 : Nat} {a1 : Nat} {q : Unit × (Nat → Nat → Int32) × (Nat → Nat → Int64)} (hw : pm_W P r k r2 k2) (hy0 : pm_lwT P a0) (hy1 : pm_lwT P a1) (h : f26 a0 a1 I J = some q) : pm_Fn X (d + 2) 26 1 [.ref a0, .ref a1] (I, J, P, pm_T0, e) (.inl none) (q.2.1, q.2.2, P, pm_T0, e) := by
  obtain ⟨hp, hw1, hw2, hw3, hw4, hw5, hw6, hw7, hw8, hw9, hw10, hw11⟩ := id hw
  have hwa := hw5.1
  have hwb := hw6.1
  have hwc := hw7.1
  have hwd := hw8.1
  obtain ⟨t0a, t0b, t0c, u0a, u0b⟩ := id hy0
  obtain ⟨t1a, t1b, t1c, u1a, u1b⟩ := id hy1
  unfold f26 at h
  refine fn_v rc26 (c := 2) (nf := 3) (by first | rfl | assumption) ml26 rfl rfl rfl rfl ?_
  refine al1 c26_0 ?_
  refine r_gr g26_1 (by first | rfl | assumption) rfl (by assumption) ?_
  refine al0 c26_4 ?_
  refine r_gr g26_5 (by first | rfl | assumption) rfl (by assumption) ?_
  refine cz2 q26_8 (s164 (by first | rfl | assumption) (by first | rfl | assumption) (by first | decide | assumption) (by first | decide | assumption)) rfl ?_
  rw [pm_lt_eq] at h
  generalize pm_cpw I (a1 + 1) (a0 + 1) (min 150 150) = I1 at h ⊢
  refine al0 c26_11 ?_
  refine al1 c26_12 ?_
  refine r_gi g26_13 (by first | rfl | assumption) rfl ?_
  refine w_pi p26_16 (by first | rfl | assumption) rfl ?_
  rw [pm_lt_eq] at h
  generalize pm_w I1 a0 2 (I1 a1 2) = I2 at h ⊢
  cases h
  exact r_rv c26_19 rt26 rfl
def v30 (x1 : Int32) (x2 : Int32) (I : Nat → Nat → Int32) : Bool := (if (pm_sget (I 5) 0 x1) = x2 then true else false)
theorem d30 {X : (Nat → Int32) × Nat} {d : Nat} {I : Nat → Nat → Int32} {J : Nat → Nat → Int64} {P : Nat → Nat → Value} {e r k r2 k2 : Nat} {x1 : Int32} {x2 : Int32} {q : Bool} (hw : pm_W P r k r2 k2)  (h : v30 x1 x2 I = q) : pm_Fn X (d + 2) 30 1 [.ref 3, .int x1, .int x2] (I, J, P, pm_T0, e) (.inl (some (.int (pm_bi q)))) (I, J, P, pm_T0, e) := by
  obtain ⟨hp, hw1, hw2, hw3, hw4, hw5, hw6, hw7, hw8, hw9, hw10, hw11⟩ := id hw
  have hwa := hw5.1
  have hwb := hw6.1
  have hwc := hw7.1
  have hwd := hw8.1
  unfold v30 at h
  refine fn_v rc30 (c := 3) (nf := 7) (by first | rfl | assumption) ml30 rfl rfl rfl rfl ?_
  refine al0 c30_0 ?_
  refine r_gr g30_1 rfl rfl (hp _ _ _ rfl) ?_
  refine r_ic c30_4 kI0 ?_
  refine il1 c30_5 ?_
  refine cv3 q30_6 (s106 (hp _ _ _ rfl)) rfl ?_
  refine il2 c30_9 ?_
  refine r_icne (t := 17) c30_10 rfl (fun h1 => ?_) (fun h1 => ?_)
  · rw [if_neg h1] at h
    refine r_ic c30_17 kI0 ?_
    cases h
    exact r_rz c30_18 rt30 (by decide) rfl rfl
  · rw [if_pos h1] at h
    refine r_ic c30_13 kI1 ?_
    refine r_go (t := 18) c30_14 rfl ?_
    cases h
    exact r_rz c30_18 rt30 (by decide) rfl rfl
def f84_14 (a0 : Nat) : Nat → Int32 → Int32 → Int32 → Int32 → (Nat → Nat → Int32) → (Nat → Nat → Int64) → Option (Int32 × (Nat → Nat → Int32) × (Nat → Nat → Int64))
  | 0, _, _, _, _, _, _ => none
  | fu + 1, y1, y2, y3, y4, I, J => (if y4.toInt < (I a0 7).toInt then (if y2 = 0 then f84_14 a0 fu y1 y2 y3 (y4 + 1) I J else (if y4 = y1 then f84_14 a0 fu y1 y2 y3 (y4 + 1) I J else (if (pm_at (I (a0 + 3)) 8 y4) = y2 then f84_14 a0 fu y1 y2 (y3 ||| ((1 : Int32) <<< (y4 &&& 31))) (y4 + 1) I J else f84_14 a0 fu y1 y2 y3 (y4 + 1) I J))) else some (y3, I, J))
def f84 (a0 : Nat) (x1 : Int32) (I : Nat → Nat → Int32) (J : Nat → Nat → Int64) : Option (Int32 × (Nat → Nat → Int32) × (Nat → Nat → Int64)) := f84_14 a0 pm_FU x1 (pm_at (I (a0 + 3)) 8 x1) 0 0 I J
theorem d84_14 {X : (Nat → Int32) × Nat} {d : Nat} {P : Nat → Nat → Value} {e r k r2 k2 : Nat} {a0 : Nat} (hw : pm_W P r k r2 k2) (hy0 : pm_rgT P a0) : ∀ (fu : Nat) {y1 y2 y3 y4 : Int32} {I : Nat → Nat → Int32} {J : Nat → Nat → Int64} {q : Int32 × (Nat → Nat → Int32) × (Nat → Nat → Int64)} (h : f84_14 a0 fu y1 y2 y3 y4 I J = some q), pm_Fx X (d + 1) 84 14 [.ref a0, .int y1, .int y2, .int y3, .int y4] [] (I, J, P, pm_T0, e) (.inl (some (.int q.1))) (q.2.1, q.2.2, P, pm_T0, e) := by
  obtain ⟨hp, hw1, hw2, hw3, hw4, hw5, hw6, hw7, hw8, hw9, hw10, hw11⟩ := id hw
  have hwa := hw5.1
  have hwb := hw6.1
  have hwc := hw7.1
  have hwd := hw8.1
  obtain ⟨t0, ⟨t1, t2, t3, t4, t5, t6, t7⟩, u0, u1, u2, u3, u4, u5, u6⟩ := id hy0
  intro fu
  induction fu with
  | zero => intro y1 y2 y3 y4 I J q h; cases h
  | succ fu ih =>
    intro y1 y2 y3 y4 I J q h
    rw [f84_14] at h
    refine il4 c84_14 ?_
    refine al0 c84_16 ?_
    refine r_gi g84_17 (by first | rfl | assumption) rfl ?_
    refine r_icge (t := 59) c84_20 rfl (fun h1 => ?_) (fun h1 => ?_)
    · rw [if_neg (Int.not_lt.mpr h1)] at h
      refine il3 c84_59 ?_
      cases h
      exact r_ri c84_60 rt84 rfl rfl
    · rw [if_pos h1] at h
      refine il2 c84_23 ?_
      refine r_ifeq (t := 53) c84_24 rfl (fun h2 => ?_) (fun h2 => ?_)
      · rw [if_pos h2] at h
        refine ii4 c84_53 kI1 rfl ?_
        refine r_go (t := 14) c84_56 rfl ?_
        exact ih h
      · rw [if_neg h2] at h
        refine il4 c84_27 ?_
        refine il1 c84_29 ?_
        refine r_iceq (t := 53) c84_30 rfl (fun h3 => ?_) (fun h3 => ?_)
        · rw [if_pos h3] at h
          refine ii4 c84_53 kI1 rfl ?_
          refine r_go (t := 14) c84_56 rfl ?_
          exact ih h
        · rw [if_neg h3] at h
          refine al0 c84_33 ?_
          refine r_gr g84_34 (by first | rfl | assumption) rfl (by assumption) ?_
          refine il4 c84_37 ?_
          refine cv2 q84_39 (s160 (by first | rfl | assumption) (by first | decide | assumption)) rfl ?_
          refine il2 c84_42 ?_
          refine r_icne (t := 53) c84_43 rfl (fun h4 => ?_) (fun h4 => ?_)
          · rw [if_neg h4] at h
            refine ii4 c84_53 kI1 rfl ?_
            refine r_go (t := 14) c84_56 rfl ?_
            exact ih h
          · rw [if_pos h4] at h
            refine il3 c84_46 ?_
            refine r_ic c84_47 kI1 ?_
            refine il4 c84_48 ?_
            refine r_ishl c84_50 ?_
            refine r_ior c84_51 ?_
            refine is3 c84_52 rfl ?_
            refine ii4 c84_53 kI1 rfl ?_
            refine r_go (t := 14) c84_56 rfl ?_
            exact ih h
theorem d84 {X : (Nat → Int32) × Nat} {d : Nat} {I : Nat → Nat → Int32} {J : Nat → Nat → Int64} {P : Nat → Nat → Value} {e r k r2 k2 : Nat} {a0 : Nat} {x1 : Int32} {q : Int32 × (Nat → Nat → Int32) × (Nat → Nat → Int64)} (hw : pm_W P r k r2 k2) (hy0 : pm_rgT P a0) (h : f84 a0 x1 I J = some q) : pm_Fn X (d + 1) 84 1 [.ref a0, .int x1] (I, J, P, pm_T0, e) (.inl (some (.int q.1))) (q.2.1, q.2.2, P, pm_T0, e) := by
  obtain ⟨hp, hw1, hw2, hw3, hw4, hw5, hw6, hw7, hw8, hw9, hw10, hw11⟩ := id hw
  have hwa := hw5.1
  have hwb := hw6.1
  have hwc := hw7.1
  have hwd := hw8.1
  obtain ⟨t0, ⟨t1, t2, t3, t4, t5, t6, t7⟩, u0, u1, u2, u3, u4, u5, u6⟩ := id hy0
  unfold f84 at h
  refine fn_v rc84 (c := 5) (nf := 11) (by first | rfl | assumption) ml84 rfl rfl rfl rfl ?_
  refine al0 c84_0 ?_
  refine r_gr g84_1 (by first | rfl | assumption) rfl (by assumption) ?_
  refine il1 c84_4 ?_
  refine cv2 q84_5 (s160 (by first | rfl | assumption) (by first | decide | assumption)) rfl ?_
  refine is2 c84_8 rfl ?_
  refine r_ic c84_9 kI0 ?_
  refine is3 c84_10 rfl ?_
  refine r_ic c84_11 kI0 ?_
  refine is4 c84_12 rfl ?_
  exact d84_14 hw hy0 pm_FU h
def v107  (I : Nat → Nat → Int32) : Int32 := pm_at (I 5) 66 64
theorem d107 {X : (Nat → Int32) × Nat} {d : Nat} {I : Nat → Nat → Int32} {J : Nat → Nat → Int64} {P : Nat → Nat → Value} {e r k r2 k2 : Nat}  {q : Int32} (hw : pm_W P r k r2 k2)  (h : v107  I = q) : pm_Fn X (d + 1) 107 1 [.ref 4] (I, J, P, pm_T0, e) (.inl (some (.int q))) (I, J, P, pm_T0, e) := by
  obtain ⟨hp, hw1, hw2, hw3, hw4, hw5, hw6, hw7, hw8, hw9, hw10, hw11⟩ := id hw
  have hwa := hw5.1
  have hwb := hw6.1
  have hwc := hw7.1
  have hwd := hw8.1
  unfold v107 at h
  refine fn_v rc107 (c := 6) (nf := 1) (by first | rfl | assumption) ml107 rfl rfl rfl rfl ?_
  refine al0 c107_0 ?_
  refine r_gr g107_1 rfl rfl (hp _ _ _ rfl) ?_
  refine r_bi c107_4 kB64 ?_
  refine cv2 q107_6 (s160 (by first | rfl | assumption) (by first | decide | assumption)) rfl ?_
  cases h
  exact r_ri c107_9 rt107 rfl rfl
def v365 (x0 : Int32) (I : Nat → Nat → Int32) : Int32 := pm_lt (x0 - (((x0.toUInt32 >>> ((1 : Int32).toUInt32 &&& Int32.toUInt32 31)).toInt32) &&& 1431655765)) (fun u1 => pm_lt ((u1 &&& 858993459) + (((u1.toUInt32 >>> ((2 : Int32).toUInt32 &&& Int32.toUInt32 31)).toInt32) &&& 858993459)) (fun u2 => pm_lt ((u2 + ((u2.toUInt32 >>> ((4 : Int32).toUInt32 &&& Int32.toUInt32 31)).toInt32)) &&& 252645135) (fun u3 => pm_lt (u3 + ((u3.toUInt32 >>> ((8 : Int32).toUInt32 &&& Int32.toUInt32 31)).toInt32)) (fun u4 => pm_lt (u4 + ((u4.toUInt32 >>> ((16 : Int32).toUInt32 &&& Int32.toUInt32 31)).toInt32)) (fun u5 => u5 &&& 63)))))
theorem d365 {X : (Nat → Int32) × Nat} {d : Nat} {I : Nat → Nat → Int32} {J : Nat → Nat → Int64} {P : Nat → Nat → Value} {e r k r2 k2 : Nat} {x0 : Int32} {q : Int32} (hw : pm_W P r k r2 k2)  (h : v365 x0 I = q) : pm_Fn X (d) 365 0 [.int x0] (I, J, P, pm_T0, e) (.inl (some (.int q))) (I, J, P, pm_T0, e) := by
  obtain ⟨hp, hw1, hw2, hw3, hw4, hw5, hw6, hw7, hw8, hw9, hw10, hw11⟩ := id hw
  have hwa := hw5.1
  have hwb := hw6.1
  have hwc := hw7.1
  have hwd := hw8.1
  unfold v365 at h
  refine fn_s ml365 rfl rfl rfl ?_
  refine il0 c365_0 ?_
  refine il0 c365_1 ?_
  refine r_ic c365_2 kI1 ?_
  refine r_iushr c365_3 ?_
  refine r_ki v365_4 ?_
  refine r_iand c365_7 ?_
  refine r_isub c365_8 ?_
  refine is0 c365_9 ?_
  rw [pm_lt_eq] at h
  generalize x0 - (((x0.toUInt32 >>> ((1 : Int32).toUInt32 &&& Int32.toUInt32 31)).toInt32) &&& 1431655765) = u1 at h ⊢
  refine il0 c365_10 ?_
  refine r_ki v365_11 ?_
  refine r_iand c365_14 ?_
  refine il0 c365_15 ?_
  refine r_ic c365_16 kI2 ?_
  refine r_iushr c365_17 ?_
  refine r_ki v365_18 ?_
  refine r_iand c365_21 ?_
  refine r_iadd c365_22 ?_
  refine is0 c365_23 ?_
  rw [pm_lt_eq] at h
  generalize (u1 &&& 858993459) + (((u1.toUInt32 >>> ((2 : Int32).toUInt32 &&& Int32.toUInt32 31)).toInt32) &&& 858993459) = u2 at h ⊢
  refine il0 c365_24 ?_
  refine il0 c365_25 ?_
  refine r_ic c365_26 kI4 ?_
  refine r_iushr c365_27 ?_
  refine r_iadd c365_28 ?_
  refine r_ki v365_29 ?_
  refine r_iand c365_32 ?_
  refine is0 c365_33 ?_
  rw [pm_lt_eq] at h
  generalize (u2 + ((u2.toUInt32 >>> ((4 : Int32).toUInt32 &&& Int32.toUInt32 31)).toInt32)) &&& 252645135 = u3 at h ⊢
  refine il0 c365_34 ?_
  refine il0 c365_35 ?_
  refine r_bi c365_36 kB8 ?_
  refine r_iushr c365_38 ?_
  refine r_iadd c365_39 ?_
  refine is0 c365_40 ?_
  rw [pm_lt_eq] at h
  generalize u3 + ((u3.toUInt32 >>> ((8 : Int32).toUInt32 &&& Int32.toUInt32 31)).toInt32) = u4 at h ⊢
  refine il0 c365_41 ?_
  refine il0 c365_42 ?_
  refine r_bi c365_43 kB16 ?_
  refine r_iushr c365_45 ?_
  refine r_iadd c365_46 ?_
  refine is0 c365_47 ?_
  rw [pm_lt_eq] at h
  generalize u4 + ((u4.toUInt32 >>> ((16 : Int32).toUInt32 &&& Int32.toUInt32 31)).toInt32) = u5 at h ⊢
  refine il0 c365_48 ?_
  refine r_bi c365_49 kB63 ?_
  refine r_iand c365_51 ?_
  cases h
  exact r_ri c365_52 rt365 rfl rfl
def f32 (r : Nat) (x1 : Int32) (I : Nat → Nat → Int32) (J : Nat → Nat → Int64) : Option (Unit × (Nat → Nat → Int32) × (Nat → Nat → Int64)) := pm_lt (pm_pw I 12 8 0 (pm_at (I (r + 1)) 8 x1)) (fun I1 => pm_lt (pm_pw I1 12 8 1 (pm_sget (I1 5) 3 x1)) (fun I2 => pm_lt (pm_pw I2 12 8 2 (pm_at (I2 (r + 2)) 8 x1)) (fun I3 => pm_lt (pm_pw I3 12 8 3 (pm_sget (I3 5) 4 x1)) (fun I4 => (f84 r x1 I4 J).bind (fun (ov5, I6, J7) => pm_lt (pm_pw I6 12 8 4 (v365 ov5 I6)) (fun I9 => pm_lt (pm_pw I9 12 8 5 (pm_sget (I9 5) 5 x1)) (fun I10 => (if (pm_sget (I 5) 7 x1) = (-1) then pm_lt (pm_pw I10 12 8 6 (v107  I10)) (fun I14 => pm_lt (pm_pw I14 12 8 7 (v107  I14)) (fun I15 => some ((), I15, J7))) else pm_lt (pm_pw I10 12 8 6 (pm_sget (I 5) 7 x1)) (fun I12 => pm_lt (pm_pw I12 12 8 7 (v107  I12)) (fun I13 => some ((), I13, J7)))))))))))
theorem d32 {X : (Nat → Int32) × Nat} {d : Nat} {I : Nat → Nat → Int32} {J : Nat → Nat → Int64} {P : Nat → Nat → Value} {e r k r2 k2 : Nat} {x1 : Int32} {q : Unit × (Nat → Nat → Int32) × (Nat → Nat → Int64)} (hw : pm_W P r k r2 k2)  (h : f32 r x1 I J = some q) : pm_Fn X (d + 2) 32 1 [.ref 3, .int x1] (I, J, P, pm_T0, e) (.inl none) (q.2.1, q.2.2, P, pm_T0, e) := by
  obtain ⟨hp, hw1, hw2, hw3, hw4, hw5, hw6, hw7, hw8, hw9, hw10, hw11⟩ := id hw
  have hwa := hw5.1
  have hwb := hw6.1
  have hwc := hw7.1
  have hwd := hw8.1
  unfold f32 at h
  refine fn_v rc32 (c := 3) (nf := 7) (by first | rfl | assumption) ml32 rfl rfl rfl rfl ?_
  refine al0 c32_0 ?_
  refine r_gr g32_1 rfl rfl (hp _ _ _ rfl) ?_
  refine r_bi c32_4 kB7 ?_
  refine il1 c32_6 ?_
  refine cv3 q32_7 (s106 (hp _ _ _ rfl)) rfl ?_
  refine is2 c32_10 rfl ?_
  refine al0 c32_11 ?_
  refine r_gr g32_12 rfl rfl (hp _ _ _ rfl) ?_
  refine r_ic c32_15 kI0 ?_
  refine al0 c32_16 ?_
  refine r_gr g32_17 rfl rfl hw1 ?_
  refine il1 c32_20 ?_
  refine cv2 q32_21 (s82 (by assumption)) rfl ?_
  refine cz3 q32_24 (t159 (by first | rfl | assumption) (by first | decide | assumption)) rfl ?_
  rw [pm_lt_eq] at h
  generalize pm_pw I 12 8 0 (pm_at (I (r + 1)) 8 x1) = I1 at h ⊢
  refine al0 c32_27 ?_
  refine r_gr g32_28 rfl rfl (hp _ _ _ rfl) ?_
  refine r_ic c32_31 kI1 ?_
  refine al0 c32_32 ?_
  refine r_gr g32_33 rfl rfl (hp _ _ _ rfl) ?_
  refine r_ic c32_36 kI3 ?_
  refine il1 c32_37 ?_
  refine cv3 q32_38 (s106 (hp _ _ _ rfl)) rfl ?_
  refine cz3 q32_41 (t159 (by first | rfl | assumption) (by first | decide | assumption)) rfl ?_
  rw [pm_lt_eq] at h
  generalize pm_pw I1 12 8 1 (pm_sget (I1 5) 3 x1) = I2 at h ⊢
  refine al0 c32_44 ?_
  refine r_gr g32_45 rfl rfl (hp _ _ _ rfl) ?_
  refine r_ic c32_48 kI2 ?_
  refine al0 c32_49 ?_
  refine r_gr g32_50 rfl rfl hw1 ?_
  refine il1 c32_53 ?_
  refine cv2 q32_54 (s83 (by assumption)) rfl ?_
  refine cz3 q32_57 (t159 (by first | rfl | assumption) (by first | decide | assumption)) rfl ?_
  rw [pm_lt_eq] at h
  generalize pm_pw I2 12 8 2 (pm_at (I2 (r + 2)) 8 x1) = I3 at h ⊢
  refine al0 c32_60 ?_
  refine r_gr g32_61 rfl rfl (hp _ _ _ rfl) ?_
  refine r_ic c32_64 kI3 ?_
  refine al0 c32_65 ?_
  refine r_gr g32_66 rfl rfl (hp _ _ _ rfl) ?_
  refine r_ic c32_69 kI4 ?_
  refine il1 c32_70 ?_
  refine cv3 q32_71 (s106 (hp _ _ _ rfl)) rfl ?_
  refine cz3 q32_74 (t159 (by first | rfl | assumption) (by first | decide | assumption)) rfl ?_
  rw [pm_lt_eq] at h
  generalize pm_pw I3 12 8 3 (pm_sget (I3 5) 4 x1) = I4 at h ⊢
  refine al0 c32_77 ?_
  refine r_gr g32_78 rfl rfl (hp _ _ _ rfl) ?_
  refine r_ic c32_81 kI4 ?_
  refine al0 c32_82 ?_
  refine r_gr g32_83 rfl rfl hw1 ?_
  refine il1 c32_86 ?_
  obtain ⟨⟨ov5, I6, J7⟩, e8, h⟩ := pm_bd_sp h
  dsimp only at h
  refine cv2 q32_87 (v := .int ov5) (μ1 := (I6, J7, P, pm_T0, e)) (d84 hw (by first | rfl | assumption | decide) e8) rfl ?_
  refine cv1 q32_90 (d365 hw rfl) rfl ?_
  refine cz3 q32_93 (t159 (by first | rfl | assumption) (by first | decide | assumption)) rfl ?_
  rw [pm_lt_eq] at h
  generalize pm_pw I6 12 8 4 (v365 ov5 I6) = I9 at h ⊢
  refine al0 c32_96 ?_
  refine r_gr g32_97 rfl rfl (hp _ _ _ rfl) ?_
  refine r_ic c32_100 kI5 ?_
  refine al0 c32_101 ?_
  refine r_gr g32_102 rfl rfl (hp _ _ _ rfl) ?_
  refine r_ic c32_105 kI5 ?_
  refine il1 c32_106 ?_
  refine cv3 q32_107 (s106 (hp _ _ _ rfl)) rfl ?_
  refine cz3 q32_110 (t159 (by first | rfl | assumption) (by first | decide | assumption)) rfl ?_
  rw [pm_lt_eq] at h
  generalize pm_pw I9 12 8 5 (pm_sget (I9 5) 5 x1) = I10 at h ⊢
  refine al0 c32_113 ?_
  refine r_gr g32_114 rfl rfl (hp _ _ _ rfl) ?_
  refine r_bi c32_117 kB6 ?_
  refine il2 c32_119 ?_
  refine r_ic c32_120 kIm1 ?_
  refine r_icne (t := 134) c32_121 rfl (fun h11 => ?_) (fun h11 => ?_)
  · rw [if_neg h11] at h
    refine il2 c32_134 ?_
    refine cz3 q32_135 (t159 (by first | rfl | assumption) (by first | decide | assumption)) rfl ?_
    rw [pm_lt_eq] at h
    generalize pm_pw I10 12 8 6 (pm_sget (I 5) 7 x1) = I12 at h ⊢
    refine al0 c32_138 ?_
    refine r_gr g32_139 rfl rfl (hp _ _ _ rfl) ?_
    refine r_bi c32_142 kB7 ?_
    refine al0 c32_144 ?_
    refine r_gr g32_145 rfl rfl (hp _ _ _ rfl) ?_
    refine cv1 q32_148 (d107 hw rfl) rfl ?_
    refine cz3 q32_151 (t159 (by first | rfl | assumption) (by first | decide | assumption)) rfl ?_
    rw [pm_lt_eq] at h
    generalize pm_pw I12 12 8 7 (v107  I12) = I13 at h ⊢
    cases h
    exact r_rv c32_154 rt32 rfl
  · rw [if_pos h11] at h
    refine al0 c32_124 ?_
    refine r_gr g32_125 rfl rfl (hp _ _ _ rfl) ?_
    refine cv1 q32_128 (d107 hw rfl) rfl ?_
    refine r_go (t := 135) c32_131 rfl ?_
    refine cz3 q32_135 (t159 (by first | rfl | assumption) (by first | decide | assumption)) rfl ?_
    rw [pm_lt_eq] at h
    generalize pm_pw I10 12 8 6 (v107  I10) = I14 at h ⊢
    refine al0 c32_138 ?_
    refine r_gr g32_139 rfl rfl (hp _ _ _ rfl) ?_
    refine r_bi c32_142 kB7 ?_
    refine al0 c32_144 ?_
    refine r_gr g32_145 rfl rfl (hp _ _ _ rfl) ?_
    refine cv1 q32_148 (d107 hw rfl) rfl ?_
    refine cz3 q32_151 (t159 (by first | rfl | assumption) (by first | decide | assumption)) rfl ?_
    rw [pm_lt_eq] at h
    generalize pm_pw I14 12 8 7 (v107  I14) = I15 at h ⊢
    cases h
    exact r_rv c32_154 rt32 rfl
def v33 (x1 : Int32) (I : Nat → Nat → Int32) : Nat := (if x1 = 0 then 6 else 9)
theorem d33 {X : (Nat → Int32) × Nat} {d : Nat} {I : Nat → Nat → Int32} {J : Nat → Nat → Int64} {P : Nat → Nat → Value} {e r k r2 k2 : Nat} {x1 : Int32} {q : Nat} (hw : pm_W P r k r2 k2)  (h : v33 x1 I = q) : pm_Fn X (d) 33 1 [.ref 3, .int x1] (I, J, P, pm_T0, e) (.inl (some (.ref q))) (I, J, P, pm_T0, e) := by
  obtain ⟨hp, hw1, hw2, hw3, hw4, hw5, hw6, hw7, hw8, hw9, hw10, hw11⟩ := id hw
  have hwa := hw5.1
  have hwb := hw6.1
  have hwc := hw7.1
  have hwd := hw8.1
  unfold v33 at h
  refine fn_v rc33 (c := 3) (nf := 7) (by first | rfl | assumption) ml33 rfl rfl rfl rfl ?_
  refine il1 c33_0 ?_
  refine r_ifne (t := 11) c33_1 rfl (fun h1 => ?_) (fun h1 => ?_)
  · rw [if_neg h1] at h
    refine al0 c33_11 ?_
    refine r_gr g33_12 rfl rfl (hp _ _ _ rfl) ?_
    cases h
    exact r_rr c33_15 rt33 rfl rfl
  · rw [if_pos h1] at h
    refine al0 c33_4 ?_
    refine r_gr g33_5 rfl rfl (hp _ _ _ rfl) ?_
    refine r_go (t := 15) c33_8 rfl ?_
    cases h
    exact r_rr c33_15 rt33 rfl rfl
def f31 (r : Nat) (x1 : Int32) (x2 : Int32) (I : Nat → Nat → Int32) (J : Nat → Nat → Int64) : Option (Int32 × (Nat → Nat → Int32) × (Nat → Nat → Int64)) := (f32 r x1 I J).bind (fun (ov1, I2, J3) => (f18 (if x2 = 0 then 6 else 9) I2 J3).bind (fun (ov6, I7, J8) => some (ov6, I7, J8)))
theorem d31 {X : (Nat → Int32) × Nat} {d : Nat} {I : Nat → Nat → Int32} {J : Nat → Nat → Int64} {P : Nat → Nat → Value} {e r k r2 k2 : Nat} {x1 : Int32} {x2 : Int32} {q : Int32 × (Nat → Nat → Int32) × (Nat → Nat → Int64)} (hw : pm_W P r k r2 k2)  (h : f31 r x1 x2 I J = some q) : pm_Fn X (d + 3) 31 1 [.ref 3, .int x1, .int x2] (I, J, P, pm_T0, e) (.inl (some (.int q.1))) (q.2.1, q.2.2, P, pm_T0, e) := by
  obtain ⟨hp, hw1, hw2, hw3, hw4, hw5, hw6, hw7, hw8, hw9, hw10, hw11⟩ := id hw
  have hwa := hw5.1
  have hwb := hw6.1
  have hwc := hw7.1
  have hwd := hw8.1
  unfold f31 at h
  refine fn_v rc31 (c := 3) (nf := 7) (by first | rfl | assumption) ml31 rfl rfl rfl rfl ?_
  refine al0 c31_0 ?_
  refine il1 c31_1 ?_
  obtain ⟨⟨ov1, I2, J3⟩, e4, h⟩ := pm_bd_sp h
  dsimp only at h
  refine cz2 q31_2 (μ1 := (I2, J3, P, pm_T0, e)) (d32 hw e4) rfl ?_
  refine al0 c31_5 ?_
  refine il2 c31_6 ?_
  refine cv2 q31_7 (d33 hw rfl) rfl ?_
  have hl5 := pm_lw33 (x := x2) hw9 hw10
  refine al0 c31_10 ?_
  refine r_gr g31_11 rfl rfl (hp _ _ _ rfl) ?_
  obtain ⟨⟨ov6, I7, J8⟩, e9, h⟩ := pm_bd_sp h
  dsimp only at h
  refine cv2 q31_14 (v := .int ov6) (μ1 := (I7, J8, P, pm_T0, e)) (d18 hw (by first | rfl | assumption | decide) e9) rfl ?_
  cases h
  exact r_ri c31_17 rt31 rfl rfl
def f29_4 (r : Nat)  : Nat → Int32 → Int32 → (Nat → Nat → Int32) → (Nat → Nat → Int64) → Option (Int32 × (Nat → Nat → Int32) × (Nat → Nat → Int64))
  | 0, _, _, _, _ => none
  | fu + 1, y1, y2, I, J => (if y2.toInt < (I r 7).toInt then (if (v30 y2 2 I) = true then (f31 r y2 1 I J).bind (fun (ov3, I4, J5) => (if (pm_sget (I 5) 2 y2).toInt < ov3.toInt then f29_4 r fu y1 (y2 + 1) I4 J5 else f29_4 r fu (y1 ||| ((1 : Int32) <<< (y2 &&& 31))) (y2 + 1) I4 J5)) else f29_4 r fu y1 (y2 + 1) I J) else some (y1, I, J))
def f29 (r : Nat)  (I : Nat → Nat → Int32) (J : Nat → Nat → Int64) : Option (Int32 × (Nat → Nat → Int32) × (Nat → Nat → Int64)) := f29_4 r pm_FU 0 0 I J
theorem d29_4 {X : (Nat → Int32) × Nat} {d : Nat} {P : Nat → Nat → Value} {e r k r2 k2 : Nat}  (hw : pm_W P r k r2 k2)  : ∀ (fu : Nat) {y1 y2 : Int32} {I : Nat → Nat → Int32} {J : Nat → Nat → Int64} {q : Int32 × (Nat → Nat → Int32) × (Nat → Nat → Int64)} (h : f29_4 r fu y1 y2 I J = some q), pm_Fx X (d + 4) 29 4 [.ref 3, .int y1, .int y2] [] (I, J, P, pm_T0, e) (.inl (some (.int q.1))) (q.2.1, q.2.2, P, pm_T0, e) := by
  obtain ⟨hp, hw1, hw2, hw3, hw4, hw5, hw6, hw7, hw8, hw9, hw10, hw11⟩ := id hw
  have hwa := hw5.1
  have hwb := hw6.1
  have hwc := hw7.1
  have hwd := hw8.1
  intro fu
  induction fu with
  | zero => intro y1 y2 I J q h; cases h
  | succ fu ih =>
    intro y1 y2 I J q h
    rw [f29_4] at h
    refine il2 c29_4 ?_
    refine al0 c29_5 ?_
    refine r_gr g29_6 rfl rfl hw1 ?_
    refine cv1 q29_9 (s81 (by first | rfl | assumption)) rfl ?_
    refine r_icge (t := 54) c29_12 rfl (fun h1 => ?_) (fun h1 => ?_)
    · rw [if_neg (Int.not_lt.mpr h1)] at h
      refine il1 c29_54 ?_
      cases h
      exact r_ri c29_55 rt29 rfl rfl
    · rw [if_pos h1] at h
      refine al0 c29_15 ?_
      refine il2 c29_16 ?_
      refine r_ic c29_17 kI2 ?_
      refine cv3 q29_18 (d30 hw rfl) rfl ?_
      refine r_ifeq (t := 48) c29_21 rfl (fun h2 => ?_) (fun h2 => ?_)
      · rw [if_neg (pm_bf h2)] at h
        refine ii2 c29_48 kI1 rfl ?_
        refine r_go (t := 4) c29_51 rfl ?_
        exact ih h
      · rw [if_pos (pm_bt h2)] at h
        refine al0 c29_24 ?_
        refine r_gr g29_25 rfl rfl (hp _ _ _ rfl) ?_
        refine r_ic c29_28 kI2 ?_
        refine il2 c29_29 ?_
        refine cv3 q29_30 (s106 (hp _ _ _ rfl)) rfl ?_
        refine al0 c29_33 ?_
        refine il2 c29_34 ?_
        refine r_ic c29_35 kI1 ?_
        obtain ⟨⟨ov3, I4, J5⟩, e6, h⟩ := pm_bd_sp h
        dsimp only at h
        refine cv3 q29_36 (v := .int ov3) (μ1 := (I4, J5, P, pm_T0, e)) (d31 hw e6) rfl ?_
        refine r_iclt (t := 48) c29_39 rfl (fun h7 => ?_) (fun h7 => ?_)
        · rw [if_pos h7] at h
          refine ii2 c29_48 kI1 rfl ?_
          refine r_go (t := 4) c29_51 rfl ?_
          exact ih h
        · rw [if_neg (Int.not_lt.mpr h7)] at h
          refine il1 c29_42 ?_
          refine r_ic c29_43 kI1 ?_
          refine il2 c29_44 ?_
          refine r_ishl c29_45 ?_
          refine r_ior c29_46 ?_
          refine is1 c29_47 rfl ?_
          refine ii2 c29_48 kI1 rfl ?_
          refine r_go (t := 4) c29_51 rfl ?_
          exact ih h
theorem d29 {X : (Nat → Int32) × Nat} {d : Nat} {I : Nat → Nat → Int32} {J : Nat → Nat → Int64} {P : Nat → Nat → Value} {e r k r2 k2 : Nat}  {q : Int32 × (Nat → Nat → Int32) × (Nat → Nat → Int64)} (hw : pm_W P r k r2 k2)  (h : f29 r I J = some q) : pm_Fn X (d + 4) 29 1 [.ref 3] (I, J, P, pm_T0, e) (.inl (some (.int q.1))) (q.2.1, q.2.2, P, pm_T0, e) := by
  obtain ⟨hp, hw1, hw2, hw3, hw4, hw5, hw6, hw7, hw8, hw9, hw10, hw11⟩ := id hw
  have hwa := hw5.1
  have hwb := hw6.1
  have hwc := hw7.1
  have hwd := hw8.1
  unfold f29 at h
  refine fn_v rc29 (c := 3) (nf := 7) (by first | rfl | assumption) ml29 rfl rfl rfl rfl ?_
  refine r_ic c29_0 kI0 ?_
  refine is1 c29_1 rfl ?_
  refine r_ic c29_2 kI0 ?_
  refine is2 c29_3 rfl ?_
  exact d29_4 hw pm_FU h
def f85 (a0 : Nat) (x1 : Int32) (x2 : Int32) (I : Nat → Nat → Int32) (J : Nat → Nat → Int64) : Option (Bool × (Nat → Nat → Int32) × (Nat → Nat → Int64)) := (f84 a0 x1 I J).bind (fun (ov1, I2, J3) => (if ((ov1 >>> (x2 &&& 31)) &&& 1) = 1 then some (true, I2, J3) else some (false, I2, J3)))
theorem d85 {X : (Nat → Int32) × Nat} {d : Nat} {I : Nat → Nat → Int32} {J : Nat → Nat → Int64} {P : Nat → Nat → Value} {e r k r2 k2 : Nat} {a0 : Nat} {x1 : Int32} {x2 : Int32} {q : Bool × (Nat → Nat → Int32) × (Nat → Nat → Int64)} (hw : pm_W P r k r2 k2) (hy0 : pm_rgT P a0) (h : f85 a0 x1 x2 I J = some q) : pm_Fn X (d + 2) 85 1 [.ref a0, .int x1, .int x2] (I, J, P, pm_T0, e) (.inl (some (.int (pm_bi q.1)))) (q.2.1, q.2.2, P, pm_T0, e) := by
  obtain ⟨hp, hw1, hw2, hw3, hw4, hw5, hw6, hw7, hw8, hw9, hw10, hw11⟩ := id hw
  have hwa := hw5.1
  have hwb := hw6.1
  have hwc := hw7.1
  have hwd := hw8.1
  obtain ⟨t0, ⟨t1, t2, t3, t4, t5, t6, t7⟩, u0, u1, u2, u3, u4, u5, u6⟩ := id hy0
  unfold f85 at h
  refine fn_v rc85 (c := 5) (nf := 11) (by first | rfl | assumption) ml85 rfl rfl rfl rfl ?_
  refine al0 c85_0 ?_
  refine il1 c85_1 ?_
  obtain ⟨⟨ov1, I2, J3⟩, e4, h⟩ := pm_bd_sp h
  dsimp only at h
  refine cv2 q85_2 (v := .int ov1) (μ1 := (I2, J3, P, pm_T0, e)) (d84 hw (by first | rfl | assumption | decide) e4) rfl ?_
  refine il2 c85_5 ?_
  refine r_ishr c85_6 ?_
  refine r_ic c85_7 kI1 ?_
  refine r_iand c85_8 ?_
  refine r_ic c85_9 kI1 ?_
  refine r_icne (t := 17) c85_10 rfl (fun h5 => ?_) (fun h5 => ?_)
  · rw [if_neg h5] at h
    refine r_ic c85_17 kI0 ?_
    cases h
    exact r_rz c85_18 rt85 (by decide) rfl rfl
  · rw [if_pos h5] at h
    refine r_ic c85_13 kI1 ?_
    refine r_go (t := 18) c85_14 rfl ?_
    cases h
    exact r_rz c85_18 rt85 (by decide) rfl rfl
def f35 (r : Nat) (x1 : Int32) (x2 : Int32) (I : Nat → Nat → Int32) (J : Nat → Nat → Int64) : Option (Bool × (Nat → Nat → Int32) × (Nat → Nat → Int64)) := (f85 r x1 x2 I J).bind (fun (ov1, I2, J3) => (if ov1 = true then (if (v30 x1 2 I2) = true then (if (v30 x2 2 I2) = true then (if (pm_sget (I2 5) 1 x1) = (pm_sget (I2 5) 1 x2) then some (false, I2, J3) else some (true, I2, J3)) else some (false, I2, J3)) else some (false, I2, J3)) else some (false, I2, J3)))
theorem d35 {X : (Nat → Int32) × Nat} {d : Nat} {I : Nat → Nat → Int32} {J : Nat → Nat → Int64} {P : Nat → Nat → Value} {e r k r2 k2 : Nat} {x1 : Int32} {x2 : Int32} {q : Bool × (Nat → Nat → Int32) × (Nat → Nat → Int64)} (hw : pm_W P r k r2 k2)  (h : f35 r x1 x2 I J = some q) : pm_Fn X (d + 3) 35 1 [.ref 3, .int x1, .int x2] (I, J, P, pm_T0, e) (.inl (some (.int (pm_bi q.1)))) (q.2.1, q.2.2, P, pm_T0, e) := by
  obtain ⟨hp, hw1, hw2, hw3, hw4, hw5, hw6, hw7, hw8, hw9, hw10, hw11⟩ := id hw
  have hwa := hw5.1
  have hwb := hw6.1
  have hwc := hw7.1
  have hwd := hw8.1
  unfold f35 at h
  refine fn_v rc35 (c := 3) (nf := 7) (by first | rfl | assumption) ml35 rfl rfl rfl rfl ?_
  refine al0 c35_0 ?_
  refine r_gr g35_1 rfl rfl hw1 ?_
  refine il1 c35_4 ?_
  refine il2 c35_5 ?_
  obtain ⟨⟨ov1, I2, J3⟩, e4, h⟩ := pm_bd_sp h
  dsimp only at h
  refine cv3 q35_6 (v := .int (pm_bi ov1)) (μ1 := (I2, J3, P, pm_T0, e)) (d85 hw (by first | rfl | assumption | decide) e4) rfl ?_
  refine r_ifeq (t := 55) c35_9 rfl (fun h5 => ?_) (fun h5 => ?_)
  · rw [if_neg (pm_bf h5)] at h
    refine r_ic c35_55 kI0 ?_
    cases h
    exact r_rz c35_56 rt35 (by decide) rfl rfl
  · rw [if_pos (pm_bt h5)] at h
    refine al0 c35_12 ?_
    refine il1 c35_13 ?_
    refine r_ic c35_14 kI2 ?_
    refine cv3 q35_15 (d30 hw rfl) rfl ?_
    refine r_ifeq (t := 55) c35_18 rfl (fun h6 => ?_) (fun h6 => ?_)
    · rw [if_neg (pm_bf h6)] at h
      refine r_ic c35_55 kI0 ?_
      cases h
      exact r_rz c35_56 rt35 (by decide) rfl rfl
    · rw [if_pos (pm_bt h6)] at h
      refine al0 c35_21 ?_
      refine il2 c35_22 ?_
      refine r_ic c35_23 kI2 ?_
      refine cv3 q35_24 (d30 hw rfl) rfl ?_
      refine r_ifeq (t := 55) c35_27 rfl (fun h7 => ?_) (fun h7 => ?_)
      · rw [if_neg (pm_bf h7)] at h
        refine r_ic c35_55 kI0 ?_
        cases h
        exact r_rz c35_56 rt35 (by decide) rfl rfl
      · rw [if_pos (pm_bt h7)] at h
        refine al0 c35_30 ?_
        refine r_gr g35_31 rfl rfl (hp _ _ _ rfl) ?_
        refine r_ic c35_34 kI1 ?_
        refine il1 c35_35 ?_
        refine cv3 q35_36 (s106 (hp _ _ _ rfl)) rfl ?_
        refine al0 c35_39 ?_
        refine r_gr g35_40 rfl rfl (hp _ _ _ rfl) ?_
        refine r_ic c35_43 kI1 ?_
        refine il2 c35_44 ?_
        refine cv3 q35_45 (s106 (hp _ _ _ rfl)) rfl ?_
        refine r_iceq (t := 55) c35_48 rfl (fun h8 => ?_) (fun h8 => ?_)
        · rw [if_pos h8] at h
          refine r_ic c35_55 kI0 ?_
          cases h
          exact r_rz c35_56 rt35 (by decide) rfl rfl
        · rw [if_neg h8] at h
          refine r_ic c35_51 kI1 ?_
          refine r_go (t := 56) c35_52 rfl ?_
          cases h
          exact r_rz c35_56 rt35 (by decide) rfl rfl
def f34_L (r : Nat)  : Nat → Nat → Int32 → Int32 → Int32 → (Nat → Nat → Int32) → (Nat → Nat → Int64) → Option (Int32 × (Nat → Nat → Int32) × (Nat → Nat → Int64))
  | 0, _, _, _, _, _, _ => none
  | fu + 1, 0, y1, y2, _, I, J => (if y2.toInt < (I r 7).toInt then f34_L r fu 1 y1 y2 (y2 + 1) I J else some (y1, I, J))
  | fu + 1, _ + 1, y1, y2, y3, I, J => (if y3.toInt < (I r 7).toInt then (f35 r y2 y3 I J).bind (fun (ov3, I4, J5) => (if ov3 = true then f34_L r fu 1 (y1 + 1) y2 (y3 + 1) I4 J5 else f34_L r fu 1 y1 y2 (y3 + 1) I4 J5)) else f34_L r fu 0 y1 (y2 + 1) 0 I J)
def f34 (r : Nat)  (I : Nat → Nat → Int32) (J : Nat → Nat → Int64) : Option (Int32 × (Nat → Nat → Int32) × (Nat → Nat → Int64)) := f34_L r pm_FU 0 0 0 0 I J
theorem d34_L {X : (Nat → Int32) × Nat} {d : Nat} {P : Nat → Nat → Value} {e r k r2 k2 : Nat}  (hw : pm_W P r k r2 k2)  : ∀ fu : Nat, (∀ {y1 y2 : Int32} {I : Nat → Nat → Int32} {J : Nat → Nat → Int64} {q : Int32 × (Nat → Nat → Int32) × (Nat → Nat → Int64)} {z3 : Value} (h : f34_L r fu 0 y1 y2 0 I J = some q), pm_Fx X (d + 4) 34 4 [.ref 3, .int y1, .int y2, z3] [] (I, J, P, pm_T0, e) (.inl (some (.int q.1))) (q.2.1, q.2.2, P, pm_T0, e)) ∧ (∀ {y1 y2 y3 : Int32} {I : Nat → Nat → Int32} {J : Nat → Nat → Int64} {q : Int32 × (Nat → Nat → Int32) × (Nat → Nat → Int64)} (h : f34_L r fu 1 y1 y2 y3 I J = some q), pm_Fx X (d + 4) 34 19 [.ref 3, .int y1, .int y2, .int y3] [] (I, J, P, pm_T0, e) (.inl (some (.int q.1))) (q.2.1, q.2.2, P, pm_T0, e)) := by
  obtain ⟨hp, hw1, hw2, hw3, hw4, hw5, hw6, hw7, hw8, hw9, hw10, hw11⟩ := id hw
  have hwa := hw5.1
  have hwb := hw6.1
  have hwc := hw7.1
  have hwd := hw8.1
  intro fu
  induction fu with
  | zero => exact ⟨(by intro y1 y2 I J q z3 h; cases h), (by intro y1 y2 y3 I J q h; cases h)⟩
  | succ fu ih =>
    refine ⟨?_, ?_⟩
    · intro y1 y2 I J q z3 h
      rw [f34_L] at h
      refine il2 c34_4 ?_
      refine al0 c34_5 ?_
      refine r_gr g34_6 rfl rfl hw1 ?_
      refine cv1 q34_9 (s81 (by first | rfl | assumption)) rfl ?_
      refine r_icge (t := 54) c34_12 rfl (fun h1 => ?_) (fun h1 => ?_)
      · rw [if_neg (Int.not_lt.mpr h1)] at h
        refine il1 c34_54 ?_
        cases h
        exact r_ri c34_55 rt34 rfl rfl
      · rw [if_pos h1] at h
        refine il2 c34_15 ?_
        refine r_ic c34_16 kI1 ?_
        refine r_iadd c34_17 ?_
        refine is3 c34_18 rfl ?_
        exact ih.2 h
    · intro y1 y2 y3 I J q h
      rw [f34_L] at h
      refine il3 c34_19 ?_
      refine al0 c34_20 ?_
      refine r_gr g34_21 rfl rfl hw1 ?_
      refine cv1 q34_24 (s81 (by first | rfl | assumption)) rfl ?_
      refine r_icge (t := 48) c34_27 rfl (fun h2 => ?_) (fun h2 => ?_)
      · rw [if_neg (Int.not_lt.mpr h2)] at h
        refine ii2 c34_48 kI1 rfl ?_
        refine r_go (t := 4) c34_51 rfl ?_
        exact ih.1 h
      · rw [if_pos h2] at h
        refine al0 c34_30 ?_
        refine il2 c34_31 ?_
        refine il3 c34_32 ?_
        obtain ⟨⟨ov3, I4, J5⟩, e6, h⟩ := pm_bd_sp h
        dsimp only at h
        refine cv3 q34_33 (v := .int (pm_bi ov3)) (μ1 := (I4, J5, P, pm_T0, e)) (d35 hw e6) rfl ?_
        refine r_ifeq (t := 42) c34_36 rfl (fun h7 => ?_) (fun h7 => ?_)
        · rw [if_neg (pm_bf h7)] at h
          refine ii3 c34_42 kI1 rfl ?_
          refine r_go (t := 19) c34_45 rfl ?_
          exact ih.2 h
        · rw [if_pos (pm_bt h7)] at h
          refine ii1 c34_39 kI1 rfl ?_
          refine ii3 c34_42 kI1 rfl ?_
          refine r_go (t := 19) c34_45 rfl ?_
          exact ih.2 h
theorem d34 {X : (Nat → Int32) × Nat} {d : Nat} {I : Nat → Nat → Int32} {J : Nat → Nat → Int64} {P : Nat → Nat → Value} {e r k r2 k2 : Nat}  {q : Int32 × (Nat → Nat → Int32) × (Nat → Nat → Int64)} (hw : pm_W P r k r2 k2)  (h : f34 r I J = some q) : pm_Fn X (d + 4) 34 1 [.ref 3] (I, J, P, pm_T0, e) (.inl (some (.int q.1))) (q.2.1, q.2.2, P, pm_T0, e) := by
  obtain ⟨hp, hw1, hw2, hw3, hw4, hw5, hw6, hw7, hw8, hw9, hw10, hw11⟩ := id hw
  have hwa := hw5.1
  have hwb := hw6.1
  have hwc := hw7.1
  have hwd := hw8.1
  unfold f34 at h
  refine fn_v rc34 (c := 3) (nf := 7) (by first | rfl | assumption) ml34 rfl rfl rfl rfl ?_
  refine r_ic c34_0 kI0 ?_
  refine is1 c34_1 rfl ?_
  refine r_ic c34_2 kI0 ?_
  refine is2 c34_3 rfl ?_
  exact (d34_L hw pm_FU).1 h
def f36_4 (r : Nat)  : Nat → Int32 → Int32 → Int32 → (Nat → Nat → Int32) → (Nat → Nat → Int64) → Option (Int32 × (Nat → Nat → Int32) × (Nat → Nat → Int64))
  | 0, _, _, _, _, _ => none
  | fu + 1, y1, y2, y3, I, J => (if y3.toInt < (I r 7).toInt then (if (v30 y3 y1 I) = true then f36_4 r fu y1 (y2 + 1) (y3 + 1) I J else f36_4 r fu y1 y2 (y3 + 1) I J) else some (y2, I, J))
def f36 (r : Nat) (x1 : Int32) (I : Nat → Nat → Int32) (J : Nat → Nat → Int64) : Option (Int32 × (Nat → Nat → Int32) × (Nat → Nat → Int64)) := f36_4 r pm_FU x1 0 0 I J
theorem d36_4 {X : (Nat → Int32) × Nat} {d : Nat} {P : Nat → Nat → Value} {e r k r2 k2 : Nat}  (hw : pm_W P r k r2 k2)  : ∀ (fu : Nat) {y1 y2 y3 : Int32} {I : Nat → Nat → Int32} {J : Nat → Nat → Int64} {q : Int32 × (Nat → Nat → Int32) × (Nat → Nat → Int64)} (h : f36_4 r fu y1 y2 y3 I J = some q), pm_Fx X (d + 3) 36 4 [.ref 3, .int y1, .int y2, .int y3] [] (I, J, P, pm_T0, e) (.inl (some (.int q.1))) (q.2.1, q.2.2, P, pm_T0, e) := by
  obtain ⟨hp, hw1, hw2, hw3, hw4, hw5, hw6, hw7, hw8, hw9, hw10, hw11⟩ := id hw
  have hwa := hw5.1
  have hwb := hw6.1
  have hwc := hw7.1
  have hwd := hw8.1
  intro fu
  induction fu with
  | zero => intro y1 y2 y3 I J q h; cases h
  | succ fu ih =>
    intro y1 y2 y3 I J q h
    rw [f36_4] at h
    refine il3 c36_4 ?_
    refine al0 c36_5 ?_
    refine r_gr g36_6 rfl rfl hw1 ?_
    refine cv1 q36_9 (s81 (by first | rfl | assumption)) rfl ?_
    refine r_icge (t := 33) c36_12 rfl (fun h1 => ?_) (fun h1 => ?_)
    · rw [if_neg (Int.not_lt.mpr h1)] at h
      refine il2 c36_33 ?_
      cases h
      exact r_ri c36_34 rt36 rfl rfl
    · rw [if_pos h1] at h
      refine al0 c36_15 ?_
      refine il3 c36_16 ?_
      refine il1 c36_17 ?_
      refine cv3 q36_18 (d30 hw rfl) rfl ?_
      refine r_ifeq (t := 27) c36_21 rfl (fun h2 => ?_) (fun h2 => ?_)
      · rw [if_neg (pm_bf h2)] at h
        refine ii3 c36_27 kI1 rfl ?_
        refine r_go (t := 4) c36_30 rfl ?_
        exact ih h
      · rw [if_pos (pm_bt h2)] at h
        refine ii2 c36_24 kI1 rfl ?_
        refine ii3 c36_27 kI1 rfl ?_
        refine r_go (t := 4) c36_30 rfl ?_
        exact ih h
theorem d36 {X : (Nat → Int32) × Nat} {d : Nat} {I : Nat → Nat → Int32} {J : Nat → Nat → Int64} {P : Nat → Nat → Value} {e r k r2 k2 : Nat} {x1 : Int32} {q : Int32 × (Nat → Nat → Int32) × (Nat → Nat → Int64)} (hw : pm_W P r k r2 k2)  (h : f36 r x1 I J = some q) : pm_Fn X (d + 3) 36 1 [.ref 3, .int x1] (I, J, P, pm_T0, e) (.inl (some (.int q.1))) (q.2.1, q.2.2, P, pm_T0, e) := by
  obtain ⟨hp, hw1, hw2, hw3, hw4, hw5, hw6, hw7, hw8, hw9, hw10, hw11⟩ := id hw
  have hwa := hw5.1
  have hwb := hw6.1
  have hwc := hw7.1
  have hwd := hw8.1
  unfold f36 at h
  refine fn_v rc36 (c := 3) (nf := 7) (by first | rfl | assumption) ml36 rfl rfl rfl rfl ?_
  refine r_ic c36_0 kI0 ?_
  refine is2 c36_1 rfl ?_
  refine r_ic c36_2 kI0 ?_
  refine is3 c36_3 rfl ?_
  exact d36_4 hw pm_FU h
def f103 (x1 : Int32) (I : Nat → Nat → Int32) (J : Nat → Nat → Int64) : Option (Unit × (Nat → Nat → Int32) × (Nat → Nat → Int64)) := pm_lt (pm_pw I 5 66 64 x1) (fun I1 => some ((), I1, J))
theorem d103 {X : (Nat → Int32) × Nat} {d : Nat} {I : Nat → Nat → Int32} {J : Nat → Nat → Int64} {P : Nat → Nat → Value} {e r k r2 k2 : Nat} {x1 : Int32} {q : Unit × (Nat → Nat → Int32) × (Nat → Nat → Int64)} (hw : pm_W P r k r2 k2)  (h : f103 x1 I J = some q) : pm_Fn X (d + 1) 103 1 [.ref 4, .int x1] (I, J, P, pm_T0, e) (.inl none) (q.2.1, q.2.2, P, pm_T0, e) := by
  obtain ⟨hp, hw1, hw2, hw3, hw4, hw5, hw6, hw7, hw8, hw9, hw10, hw11⟩ := id hw
  have hwa := hw5.1
  have hwb := hw6.1
  have hwc := hw7.1
  have hwd := hw8.1
  unfold f103 at h
  refine fn_v rc103 (c := 6) (nf := 1) (by first | rfl | assumption) ml103 rfl rfl rfl rfl ?_
  refine al0 c103_0 ?_
  refine r_gr g103_1 rfl rfl (hp _ _ _ rfl) ?_
  refine r_bi c103_4 kB64 ?_
  refine il1 c103_6 ?_
  refine cz3 q103_7 (t159 (by first | rfl | assumption) (by first | decide | assumption)) rfl ?_
  rw [pm_lt_eq] at h
  generalize pm_pw I 5 66 64 x1 = I1 at h ⊢
  cases h
  exact r_rv c103_10 rt103 rfl
def f104 (x1 : Int32) (I : Nat → Nat → Int32) (J : Nat → Nat → Int64) : Option (Unit × (Nat → Nat → Int32) × (Nat → Nat → Int64)) := pm_lt (pm_pw I 5 66 65 x1) (fun I1 => some ((), I1, J))
theorem d104 {X : (Nat → Int32) × Nat} {d : Nat} {I : Nat → Nat → Int32} {J : Nat → Nat → Int64} {P : Nat → Nat → Value} {e r k r2 k2 : Nat} {x1 : Int32} {q : Unit × (Nat → Nat → Int32) × (Nat → Nat → Int64)} (hw : pm_W P r k r2 k2)  (h : f104 x1 I J = some q) : pm_Fn X (d + 1) 104 1 [.ref 4, .int x1] (I, J, P, pm_T0, e) (.inl none) (q.2.1, q.2.2, P, pm_T0, e) := by
  obtain ⟨hp, hw1, hw2, hw3, hw4, hw5, hw6, hw7, hw8, hw9, hw10, hw11⟩ := id hw
  have hwa := hw5.1
  have hwb := hw6.1
  have hwc := hw7.1
  have hwd := hw8.1
  unfold f104 at h
  refine fn_v rc104 (c := 6) (nf := 1) (by first | rfl | assumption) ml104 rfl rfl rfl rfl ?_
  refine al0 c104_0 ?_
  refine r_gr g104_1 rfl rfl (hp _ _ _ rfl) ?_
  refine r_bi c104_4 kB65 ?_
  refine il1 c104_6 ?_
  refine cz3 q104_7 (t159 (by first | rfl | assumption) (by first | decide | assumption)) rfl ?_
  rw [pm_lt_eq] at h
  generalize pm_pw I 5 66 65 x1 = I1 at h ⊢
  cases h
  exact r_rv c104_10 rt104 rfl
def f101_L (a1 : Nat) : Nat → Nat → Int32 → Int32 → (Nat → Nat → Int32) → (Nat → Nat → Int64) → Option (Unit × (Nat → Nat → Int32) × (Nat → Nat → Int64))
  | 0, _, _, _, _, _ => none
  | fu + 1, 0, y2, _, I, J => (if y2.toInt < (8 : Int32).toInt then f101_L a1 fu 1 y2 0 I J else (f103 0 I J).bind (fun (ov2, I3, J4) => (f104 (I3 a1 9) I3 J4).bind (fun (ov6, I7, J8) => some ((), I7, J8))))
  | fu + 1, _ + 1, y2, y3, I, J => (if y3.toInt < (8 : Int32).toInt then pm_lt (pm_sset I y3 y2 0) (fun I14 => f101_L a1 fu 1 y2 (y3 + 1) I14 J) else pm_lt (pm_sset I 1 y2 (-1)) (fun I11 => pm_lt (pm_sset I11 7 y2 (-1)) (fun I12 => pm_lt (pm_sset I12 6 y2 (pm_at (I12 (a1 + 4)) 8 y2)) (fun I13 => f101_L a1 fu 0 (y2 + 1) 0 I13 J))))
def f101 (a1 : Nat) (I : Nat → Nat → Int32) (J : Nat → Nat → Int64) : Option (Unit × (Nat → Nat → Int32) × (Nat → Nat → Int64)) := f101_L a1 pm_FU 0 0 0 I J
theorem d101_L {X : (Nat → Int32) × Nat} {d : Nat} {P : Nat → Nat → Value} {e r k r2 k2 : Nat} {a1 : Nat} (hw : pm_W P r k r2 k2) (hy0 : pm_rgT P a1) : ∀ fu : Nat, (∀ {y2 : Int32} {I : Nat → Nat → Int32} {J : Nat → Nat → Int64} {q : Unit × (Nat → Nat → Int32) × (Nat → Nat → Int64)} {z3 : Value} (h : f101_L a1 fu 0 y2 0 I J = some q), pm_Fx X (d + 2) 101 2 [.ref 4, .ref a1, .int y2, z3] [] (I, J, P, pm_T0, e) (.inl none) (q.2.1, q.2.2, P, pm_T0, e)) ∧ (∀ {y2 y3 : Int32} {I : Nat → Nat → Int32} {J : Nat → Nat → Int64} {q : Unit × (Nat → Nat → Int32) × (Nat → Nat → Int64)} (h : f101_L a1 fu 1 y2 y3 I J = some q), pm_Fx X (d + 2) 101 10 [.ref 4, .ref a1, .int y2, .int y3] [] (I, J, P, pm_T0, e) (.inl none) (q.2.1, q.2.2, P, pm_T0, e)) := by
  obtain ⟨hp, hw1, hw2, hw3, hw4, hw5, hw6, hw7, hw8, hw9, hw10, hw11⟩ := id hw
  have hwa := hw5.1
  have hwb := hw6.1
  have hwc := hw7.1
  have hwd := hw8.1
  obtain ⟨t0, ⟨t1, t2, t3, t4, t5, t6, t7⟩, u0, u1, u2, u3, u4, u5, u6⟩ := id hy0
  intro fu
  induction fu with
  | zero => exact ⟨(by intro y2 I J q z3 h; cases h), (by intro y2 y3 I J q h; cases h)⟩
  | succ fu ih =>
    refine ⟨?_, ?_⟩
    · intro y2 I J q z3 h
      rw [f101_L] at h
      refine il2 c101_2 ?_
      refine r_bi c101_3 kB8 ?_
      refine r_icge (t := 62) c101_5 rfl (fun h1 => ?_) (fun h1 => ?_)
      · rw [if_neg (Int.not_lt.mpr h1)] at h
        refine al0 c101_62 ?_
        refine r_ic c101_63 kI0 ?_
        obtain ⟨⟨ov2, I3, J4⟩, e5, h⟩ := pm_bd_sp h
        dsimp only at h
        refine cz2 q101_64 (μ1 := (I3, J4, P, pm_T0, e)) (d103 hw e5) rfl ?_
        refine al0 c101_67 ?_
        refine al1 c101_68 ?_
        refine cv1 q101_69 (s80 (by first | rfl | assumption)) rfl ?_
        obtain ⟨⟨ov6, I7, J8⟩, e9, h⟩ := pm_bd_sp h
        dsimp only at h
        refine cz2 q101_72 (μ1 := (I7, J8, P, pm_T0, e)) (d104 hw e9) rfl ?_
        cases h
        exact r_rv c101_75 rt101 rfl
      · rw [if_pos h1] at h
        refine r_ic c101_8 kI0 ?_
        refine is3 c101_9 rfl ?_
        exact ih.2 h
    · intro y2 y3 I J q h
      rw [f101_L] at h
      refine il3 c101_10 ?_
      refine r_bi c101_11 kB8 ?_
      refine r_icge (t := 29) c101_13 rfl (fun h10 => ?_) (fun h10 => ?_)
      · rw [if_neg (Int.not_lt.mpr h10)] at h
        refine al0 c101_29 ?_
        refine r_ic c101_30 kI1 ?_
        refine il2 c101_31 ?_
        refine r_ic c101_32 kIm1 ?_
        refine cz4 q101_33 (s102 (hp _ _ _ rfl)) rfl ?_
        rw [pm_lt_eq] at h
        generalize pm_sset I 1 y2 (-1) = I11 at h ⊢
        refine al0 c101_36 ?_
        refine r_bi c101_37 kB7 ?_
        refine il2 c101_39 ?_
        refine r_ic c101_40 kIm1 ?_
        refine cz4 q101_41 (s102 (hp _ _ _ rfl)) rfl ?_
        rw [pm_lt_eq] at h
        generalize pm_sset I11 7 y2 (-1) = I12 at h ⊢
        refine al0 c101_44 ?_
        refine r_bi c101_45 kB6 ?_
        refine il2 c101_47 ?_
        refine al1 c101_48 ?_
        refine il2 c101_49 ?_
        refine cv2 q101_50 (s79 (by assumption)) rfl ?_
        refine cz4 q101_53 (s102 (hp _ _ _ rfl)) rfl ?_
        rw [pm_lt_eq] at h
        generalize pm_sset I12 6 y2 (pm_at (I12 (a1 + 4)) 8 y2) = I13 at h ⊢
        refine ii2 c101_56 kI1 rfl ?_
        refine r_go (t := 2) c101_59 rfl ?_
        exact ih.1 h
      · rw [if_pos h10] at h
        refine al0 c101_16 ?_
        refine il3 c101_17 ?_
        refine il2 c101_18 ?_
        refine r_ic c101_19 kI0 ?_
        refine cz4 q101_20 (s102 (hp _ _ _ rfl)) rfl ?_
        rw [pm_lt_eq] at h
        generalize pm_sset I y3 y2 0 = I14 at h ⊢
        refine ii3 c101_23 kI1 rfl ?_
        refine r_go (t := 10) c101_26 rfl ?_
        exact ih.2 h
theorem d101 {X : (Nat → Int32) × Nat} {d : Nat} {I : Nat → Nat → Int32} {J : Nat → Nat → Int64} {P : Nat → Nat → Value} {e r k r2 k2 : Nat} {a1 : Nat} {q : Unit × (Nat → Nat → Int32) × (Nat → Nat → Int64)} (hw : pm_W P r k r2 k2) (hy0 : pm_rgT P a1) (h : f101 a1 I J = some q) : pm_Fn X (d + 2) 101 1 [.ref 4, .ref a1] (I, J, P, pm_T0, e) (.inl none) (q.2.1, q.2.2, P, pm_T0, e) := by
  obtain ⟨hp, hw1, hw2, hw3, hw4, hw5, hw6, hw7, hw8, hw9, hw10, hw11⟩ := id hw
  have hwa := hw5.1
  have hwb := hw6.1
  have hwc := hw7.1
  have hwd := hw8.1
  obtain ⟨t0, ⟨t1, t2, t3, t4, t5, t6, t7⟩, u0, u1, u2, u3, u4, u5, u6⟩ := id hy0
  unfold f101 at h
  refine fn_v rc101 (c := 6) (nf := 1) (by first | rfl | assumption) ml101 rfl rfl rfl rfl ?_
  refine r_ic c101_0 kI0 ?_
  refine is2 c101_1 rfl ?_
  exact (d101_L hw hy0 pm_FU).1 h
def f40_29 (r : Nat)  : Nat → Int32 → (Nat → Nat → Int32) → (Nat → Nat → Int64) → Option (Bool × (Nat → Nat → Int32) × (Nat → Nat → Int64))
  | 0, _, _, _ => none
  | fu + 1, y1, I, J => (if y1.toInt < (I r 7).toInt then (if (v30 y1 0 I) = true then pm_lt (pm_sset I 0 y1 1) (fun I3 => f40_29 r fu (y1 + 1) I3 J) else f40_29 r fu (y1 + 1) I J) else some (true, I, J))
def f40 (r : Nat)  (I : Nat → Nat → Int32) (J : Nat → Nat → Int64) : Option (Bool × (Nat → Nat → Int32) × (Nat → Nat → Int64)) := (f36 r 0 I J).bind (fun (ov1, I2, J3) => (if ov1 = 0 then some (false, I2, J3) else (if (v107  I2).toInt < (I2 r 10).toInt then some (false, I2, J3) else f40_29 r pm_FU 0 I2 J3)))
theorem d40_29 {X : (Nat → Int32) × Nat} {d : Nat} {P : Nat → Nat → Value} {e r k r2 k2 : Nat}  (hw : pm_W P r k r2 k2)  : ∀ (fu : Nat) {y1 : Int32} {I : Nat → Nat → Int32} {J : Nat → Nat → Int64} {q : Bool × (Nat → Nat → Int32) × (Nat → Nat → Int64)} (h : f40_29 r fu y1 I J = some q), pm_Fx X (d + 4) 40 29 [.ref 3, .int y1] [] (I, J, P, pm_T0, e) (.inl (some (.int (pm_bi q.1)))) (q.2.1, q.2.2, P, pm_T0, e) := by
  obtain ⟨hp, hw1, hw2, hw3, hw4, hw5, hw6, hw7, hw8, hw9, hw10, hw11⟩ := id hw
  have hwa := hw5.1
  have hwb := hw6.1
  have hwc := hw7.1
  have hwd := hw8.1
  intro fu
  induction fu with
  | zero => intro y1 I J q h; cases h
  | succ fu ih =>
    intro y1 I J q h
    rw [f40_29] at h
    refine il1 c40_29 ?_
    refine al0 c40_30 ?_
    refine r_gr g40_31 rfl rfl hw1 ?_
    refine cv1 q40_34 (s81 (by first | rfl | assumption)) rfl ?_
    refine r_icge (t := 65) c40_37 rfl (fun h1 => ?_) (fun h1 => ?_)
    · rw [if_neg (Int.not_lt.mpr h1)] at h
      refine r_ic c40_65 kI1 ?_
      cases h
      exact r_rz c40_66 rt40 (by decide) rfl rfl
    · rw [if_pos h1] at h
      refine al0 c40_40 ?_
      refine il1 c40_41 ?_
      refine r_ic c40_42 kI0 ?_
      refine cv3 q40_43 (d30 hw rfl) rfl ?_
      refine r_ifeq (t := 59) c40_46 rfl (fun h2 => ?_) (fun h2 => ?_)
      · rw [if_neg (pm_bf h2)] at h
        refine ii1 c40_59 kI1 rfl ?_
        refine r_go (t := 29) c40_62 rfl ?_
        exact ih h
      · rw [if_pos (pm_bt h2)] at h
        refine al0 c40_49 ?_
        refine r_gr g40_50 rfl rfl (hp _ _ _ rfl) ?_
        refine r_ic c40_53 kI0 ?_
        refine il1 c40_54 ?_
        refine r_ic c40_55 kI1 ?_
        refine cz4 q40_56 (s102 (hp _ _ _ rfl)) rfl ?_
        rw [pm_lt_eq] at h
        generalize pm_sset I 0 y1 1 = I3 at h ⊢
        refine ii1 c40_59 kI1 rfl ?_
        refine r_go (t := 29) c40_62 rfl ?_
        exact ih h
theorem d40 {X : (Nat → Int32) × Nat} {d : Nat} {I : Nat → Nat → Int32} {J : Nat → Nat → Int64} {P : Nat → Nat → Value} {e r k r2 k2 : Nat}  {q : Bool × (Nat → Nat → Int32) × (Nat → Nat → Int64)} (hw : pm_W P r k r2 k2)  (h : f40 r I J = some q) : pm_Fn X (d + 4) 40 1 [.ref 3] (I, J, P, pm_T0, e) (.inl (some (.int (pm_bi q.1)))) (q.2.1, q.2.2, P, pm_T0, e) := by
  obtain ⟨hp, hw1, hw2, hw3, hw4, hw5, hw6, hw7, hw8, hw9, hw10, hw11⟩ := id hw
  have hwa := hw5.1
  have hwb := hw6.1
  have hwc := hw7.1
  have hwd := hw8.1
  unfold f40 at h
  refine fn_v rc40 (c := 3) (nf := 7) (by first | rfl | assumption) ml40 rfl rfl rfl rfl ?_
  refine al0 c40_0 ?_
  refine r_ic c40_1 kI0 ?_
  obtain ⟨⟨ov1, I2, J3⟩, e4, h⟩ := pm_bd_sp h
  dsimp only at h
  refine cv2 q40_2 (v := .int ov1) (μ1 := (I2, J3, P, pm_T0, e)) (d36 hw e4) rfl ?_
  refine r_ifeq (t := 25) c40_5 rfl (fun h5 => ?_) (fun h5 => ?_)
  · rw [if_pos h5] at h
    refine r_ic c40_25 kI0 ?_
    cases h
    exact r_rz c40_26 rt40 (by decide) rfl rfl
  · rw [if_neg h5] at h
    refine al0 c40_8 ?_
    refine r_gr g40_9 rfl rfl (hp _ _ _ rfl) ?_
    refine cv1 q40_12 (d107 hw rfl) rfl ?_
    refine al0 c40_15 ?_
    refine r_gr g40_16 rfl rfl hw1 ?_
    refine cv1 q40_19 (s93 (by first | rfl | assumption)) rfl ?_
    refine r_icge (t := 27) c40_22 rfl (fun h6 => ?_) (fun h6 => ?_)
    · rw [if_neg (Int.not_lt.mpr h6)] at h
      refine r_ic c40_27 kI0 ?_
      refine is1 c40_28 rfl ?_
      exact d40_29 hw pm_FU h
    · rw [if_pos h6] at h
      refine r_ic c40_25 kI0 ?_
      cases h
      exact r_rz c40_26 rt40 (by decide) rfl rfl
def f42_4 (r : Nat)  : Nat → Int32 → Int32 → Int32 → (Nat → Nat → Int32) → (Nat → Nat → Int64) → Option (Int32 × (Nat → Nat → Int32) × (Nat → Nat → Int64))
  | 0, _, _, _, _, _ => none
  | fu + 1, y1, y2, y3, I, J => (if y3.toInt < (I r 7).toInt then (if (v30 y3 2 I) = true then (if (pm_sget (I 5) 1 y3) = y1 then f42_4 r fu y1 (y2 + 1) (y3 + 1) I J else f42_4 r fu y1 y2 (y3 + 1) I J) else f42_4 r fu y1 y2 (y3 + 1) I J) else some (y2, I, J))
def f42 (r : Nat) (x1 : Int32) (I : Nat → Nat → Int32) (J : Nat → Nat → Int64) : Option (Int32 × (Nat → Nat → Int32) × (Nat → Nat → Int64)) := f42_4 r pm_FU x1 0 0 I J
theorem d42_4 {X : (Nat → Int32) × Nat} {d : Nat} {P : Nat → Nat → Value} {e r k r2 k2 : Nat}  (hw : pm_W P r k r2 k2)  : ∀ (fu : Nat) {y1 y2 y3 : Int32} {I : Nat → Nat → Int32} {J : Nat → Nat → Int64} {q : Int32 × (Nat → Nat → Int32) × (Nat → Nat → Int64)} (h : f42_4 r fu y1 y2 y3 I J = some q), pm_Fx X (d + 3) 42 4 [.ref 3, .int y1, .int y2, .int y3] [] (I, J, P, pm_T0, e) (.inl (some (.int q.1))) (q.2.1, q.2.2, P, pm_T0, e) := by
  obtain ⟨hp, hw1, hw2, hw3, hw4, hw5, hw6, hw7, hw8, hw9, hw10, hw11⟩ := id hw
  have hwa := hw5.1
  have hwb := hw6.1
  have hwc := hw7.1
  have hwd := hw8.1
  intro fu
  induction fu with
  | zero => intro y1 y2 y3 I J q h; cases h
  | succ fu ih =>
    intro y1 y2 y3 I J q h
    rw [f42_4] at h
    refine il3 c42_4 ?_
    refine al0 c42_5 ?_
    refine r_gr g42_6 rfl rfl hw1 ?_
    refine cv1 q42_9 (s81 (by first | rfl | assumption)) rfl ?_
    refine r_icge (t := 46) c42_12 rfl (fun h1 => ?_) (fun h1 => ?_)
    · rw [if_neg (Int.not_lt.mpr h1)] at h
      refine il2 c42_46 ?_
      cases h
      exact r_ri c42_47 rt42 rfl rfl
    · rw [if_pos h1] at h
      refine al0 c42_15 ?_
      refine il3 c42_16 ?_
      refine r_ic c42_17 kI2 ?_
      refine cv3 q42_18 (d30 hw rfl) rfl ?_
      refine r_ifeq (t := 40) c42_21 rfl (fun h2 => ?_) (fun h2 => ?_)
      · rw [if_neg (pm_bf h2)] at h
        refine ii3 c42_40 kI1 rfl ?_
        refine r_go (t := 4) c42_43 rfl ?_
        exact ih h
      · rw [if_pos (pm_bt h2)] at h
        refine al0 c42_24 ?_
        refine r_gr g42_25 rfl rfl (hp _ _ _ rfl) ?_
        refine r_ic c42_28 kI1 ?_
        refine il3 c42_29 ?_
        refine cv3 q42_30 (s106 (hp _ _ _ rfl)) rfl ?_
        refine il1 c42_33 ?_
        refine r_icne (t := 40) c42_34 rfl (fun h3 => ?_) (fun h3 => ?_)
        · rw [if_neg h3] at h
          refine ii3 c42_40 kI1 rfl ?_
          refine r_go (t := 4) c42_43 rfl ?_
          exact ih h
        · rw [if_pos h3] at h
          refine ii2 c42_37 kI1 rfl ?_
          refine ii3 c42_40 kI1 rfl ?_
          refine r_go (t := 4) c42_43 rfl ?_
          exact ih h
theorem d42 {X : (Nat → Int32) × Nat} {d : Nat} {I : Nat → Nat → Int32} {J : Nat → Nat → Int64} {P : Nat → Nat → Value} {e r k r2 k2 : Nat} {x1 : Int32} {q : Int32 × (Nat → Nat → Int32) × (Nat → Nat → Int64)} (hw : pm_W P r k r2 k2)  (h : f42 r x1 I J = some q) : pm_Fn X (d + 3) 42 1 [.ref 3, .int x1] (I, J, P, pm_T0, e) (.inl (some (.int q.1))) (q.2.1, q.2.2, P, pm_T0, e) := by
  obtain ⟨hp, hw1, hw2, hw3, hw4, hw5, hw6, hw7, hw8, hw9, hw10, hw11⟩ := id hw
  have hwa := hw5.1
  have hwb := hw6.1
  have hwc := hw7.1
  have hwd := hw8.1
  unfold f42 at h
  refine fn_v rc42 (c := 3) (nf := 7) (by first | rfl | assumption) ml42 rfl rfl rfl rfl ?_
  refine r_ic c42_0 kI0 ?_
  refine is2 c42_1 rfl ?_
  refine r_ic c42_2 kI0 ?_
  refine is3 c42_3 rfl ?_
  exact d42_4 hw pm_FU h
def f41 (r : Nat) (x1 : Int32) (x2 : Int32) (I : Nat → Nat → Int32) (J : Nat → Nat → Int64) : Option (Bool × (Nat → Nat → Int32) × (Nat → Nat → Int64)) := (if (v30 x1 1 I) = true then (f42 r x2 I J).bind (fun (ov2, I3, J4) => (if ov2.toInt < (pm_at (I3 (r + 7)) 5 x2).toInt then pm_lt (pm_sset I3 0 x1 2) (fun I7 => pm_lt (pm_sset I7 1 x1 x2) (fun I8 => pm_lt (pm_sset I8 2 x1 0) (fun I9 => pm_lt (pm_sset I9 7 x1 (v107  I9)) (fun I10 => some (true, I10, J4))))) else some (false, I3, J4))) else some (false, I, J))
theorem d41 {X : (Nat → Int32) × Nat} {d : Nat} {I : Nat → Nat → Int32} {J : Nat → Nat → Int64} {P : Nat → Nat → Value} {e r k r2 k2 : Nat} {x1 : Int32} {x2 : Int32} {q : Bool × (Nat → Nat → Int32) × (Nat → Nat → Int64)} (hw : pm_W P r k r2 k2)  (h : f41 r x1 x2 I J = some q) : pm_Fn X (d + 4) 41 1 [.ref 3, .int x1, .int x2] (I, J, P, pm_T0, e) (.inl (some (.int (pm_bi q.1)))) (q.2.1, q.2.2, P, pm_T0, e) := by
  obtain ⟨hp, hw1, hw2, hw3, hw4, hw5, hw6, hw7, hw8, hw9, hw10, hw11⟩ := id hw
  have hwa := hw5.1
  have hwb := hw6.1
  have hwc := hw7.1
  have hwd := hw8.1
  unfold f41 at h
  refine fn_v rc41 (c := 3) (nf := 7) (by first | rfl | assumption) ml41 rfl rfl rfl rfl ?_
  refine al0 c41_0 ?_
  refine il1 c41_1 ?_
  refine r_ic c41_2 kI1 ?_
  refine cv3 q41_3 (d30 hw rfl) rfl ?_
  refine r_ifeq (t := 25) c41_6 rfl (fun h1 => ?_) (fun h1 => ?_)
  · rw [if_neg (pm_bf h1)] at h
    refine r_ic c41_25 kI0 ?_
    cases h
    exact r_rz c41_26 rt41 (by decide) rfl rfl
  · rw [if_pos (pm_bt h1)] at h
    refine al0 c41_9 ?_
    refine il2 c41_10 ?_
    obtain ⟨⟨ov2, I3, J4⟩, e5, h⟩ := pm_bd_sp h
    dsimp only at h
    refine cv2 q41_11 (v := .int ov2) (μ1 := (I3, J4, P, pm_T0, e)) (d42 hw e5) rfl ?_
    refine al0 c41_14 ?_
    refine r_gr g41_15 rfl rfl hw1 ?_
    refine il2 c41_18 ?_
    refine cv2 q41_19 (s94 (by assumption)) rfl ?_
    refine r_iclt (t := 27) c41_22 rfl (fun h6 => ?_) (fun h6 => ?_)
    · rw [if_pos h6] at h
      refine al0 c41_27 ?_
      refine r_gr g41_28 rfl rfl (hp _ _ _ rfl) ?_
      refine r_ic c41_31 kI0 ?_
      refine il1 c41_32 ?_
      refine r_ic c41_33 kI2 ?_
      refine cz4 q41_34 (s102 (hp _ _ _ rfl)) rfl ?_
      rw [pm_lt_eq] at h
      generalize pm_sset I3 0 x1 2 = I7 at h ⊢
      refine al0 c41_37 ?_
      refine r_gr g41_38 rfl rfl (hp _ _ _ rfl) ?_
      refine r_ic c41_41 kI1 ?_
      refine il1 c41_42 ?_
      refine il2 c41_43 ?_
      refine cz4 q41_44 (s102 (hp _ _ _ rfl)) rfl ?_
      rw [pm_lt_eq] at h
      generalize pm_sset I7 1 x1 x2 = I8 at h ⊢
      refine al0 c41_47 ?_
      refine r_gr g41_48 rfl rfl (hp _ _ _ rfl) ?_
      refine r_ic c41_51 kI2 ?_
      refine il1 c41_52 ?_
      refine r_ic c41_53 kI0 ?_
      refine cz4 q41_54 (s102 (hp _ _ _ rfl)) rfl ?_
      rw [pm_lt_eq] at h
      generalize pm_sset I8 2 x1 0 = I9 at h ⊢
      refine al0 c41_57 ?_
      refine r_gr g41_58 rfl rfl (hp _ _ _ rfl) ?_
      refine r_bi c41_61 kB7 ?_
      refine il1 c41_63 ?_
      refine al0 c41_64 ?_
      refine r_gr g41_65 rfl rfl (hp _ _ _ rfl) ?_
      refine cv1 q41_68 (d107 hw rfl) rfl ?_
      refine cz4 q41_71 (s102 (hp _ _ _ rfl)) rfl ?_
      rw [pm_lt_eq] at h
      generalize pm_sset I9 7 x1 (v107  I9) = I10 at h ⊢
      refine r_ic c41_74 kI1 ?_
      cases h
      exact r_rz c41_75 rt41 (by decide) rfl rfl
    · rw [if_neg (Int.not_lt.mpr h6)] at h
      refine r_ic c41_25 kI0 ?_
      cases h
      exact r_rz c41_26 rt41 (by decide) rfl rfl
def f43 (x1 : Int32) (x2 : Int32) (I : Nat → Nat → Int32) (J : Nat → Nat → Int64) : Option (Bool × (Nat → Nat → Int32) × (Nat → Nat → Int64)) := (if (v30 x1 2 I) = true then (if (pm_sget (I 5) 3 x1).toInt < (99 : Int32).toInt then pm_lt (pm_sset I 3 x1 (pm_min 99 ((pm_sget (I 5) 3 x1) + x2))) (fun I3 => some (true, I3, J)) else some (false, I, J)) else some (false, I, J))
theorem d43 {X : (Nat → Int32) × Nat} {d : Nat} {I : Nat → Nat → Int32} {J : Nat → Nat → Int64} {P : Nat → Nat → Value} {e r k r2 k2 : Nat} {x1 : Int32} {x2 : Int32} {q : Bool × (Nat → Nat → Int32) × (Nat → Nat → Int64)} (hw : pm_W P r k r2 k2)  (h : f43 x1 x2 I J = some q) : pm_Fn X (d + 3) 43 1 [.ref 3, .int x1, .int x2] (I, J, P, pm_T0, e) (.inl (some (.int (pm_bi q.1)))) (q.2.1, q.2.2, P, pm_T0, e) := by
  obtain ⟨hp, hw1, hw2, hw3, hw4, hw5, hw6, hw7, hw8, hw9, hw10, hw11⟩ := id hw
  have hwa := hw5.1
  have hwb := hw6.1
  have hwc := hw7.1
  have hwd := hw8.1
  unfold f43 at h
  refine fn_v rc43 (c := 3) (nf := 7) (by first | rfl | assumption) ml43 rfl rfl rfl rfl ?_
  refine al0 c43_0 ?_
  refine r_gr g43_1 rfl rfl (hp _ _ _ rfl) ?_
  refine r_ic c43_4 kI3 ?_
  refine il1 c43_5 ?_
  refine cv3 q43_6 (s106 (hp _ _ _ rfl)) rfl ?_
  refine is3 c43_9 rfl ?_
  refine al0 c43_10 ?_
  refine il1 c43_11 ?_
  refine r_ic c43_12 kI2 ?_
  refine cv3 q43_13 (d30 hw rfl) rfl ?_
  refine r_ifeq (t := 25) c43_16 rfl (fun h1 => ?_) (fun h1 => ?_)
  · rw [if_neg (pm_bf h1)] at h
    refine r_ic c43_25 kI0 ?_
    cases h
    exact r_rz c43_26 rt43 (by decide) rfl rfl
  · rw [if_pos (pm_bt h1)] at h
    refine il3 c43_19 ?_
    refine r_bi c43_20 kB99 ?_
    refine r_iclt (t := 27) c43_22 rfl (fun h2 => ?_) (fun h2 => ?_)
    · rw [if_pos h2] at h
      refine al0 c43_27 ?_
      refine r_gr g43_28 rfl rfl (hp _ _ _ rfl) ?_
      refine r_ic c43_31 kI3 ?_
      refine il1 c43_32 ?_
      refine r_bi c43_33 kB99 ?_
      refine il3 c43_35 ?_
      refine il2 c43_36 ?_
      refine r_iadd c43_37 ?_
      refine cv2 q43_38 s363 rfl ?_
      refine cz4 q43_41 (s102 (hp _ _ _ rfl)) rfl ?_
      rw [pm_lt_eq] at h
      generalize pm_sset I 3 x1 (pm_min 99 ((pm_sget (I 5) 3 x1) + x2)) = I3 at h ⊢
      refine r_ic c43_44 kI1 ?_
      cases h
      exact r_rz c43_45 rt43 (by decide) rfl rfl
    · rw [if_neg (Int.not_lt.mpr h2)] at h
      refine r_ic c43_25 kI0 ?_
      cases h
      exact r_rz c43_26 rt43 (by decide) rfl rfl
def f44 (x1 : Int32) (I : Nat → Nat → Int32) (J : Nat → Nat → Int64) : Option (Bool × (Nat → Nat → Int32) × (Nat → Nat → Int64)) := (if (pm_sget (I 5) 3 x1) = 0 then some (false, I, J) else pm_lt (pm_sset I 3 x1 0) (fun I2 => some (true, I2, J)))
theorem d44 {X : (Nat → Int32) × Nat} {d : Nat} {I : Nat → Nat → Int32} {J : Nat → Nat → Int64} {P : Nat → Nat → Value} {e r k r2 k2 : Nat} {x1 : Int32} {q : Bool × (Nat → Nat → Int32) × (Nat → Nat → Int64)} (hw : pm_W P r k r2 k2)  (h : f44 x1 I J = some q) : pm_Fn X (d + 2) 44 1 [.ref 3, .int x1] (I, J, P, pm_T0, e) (.inl (some (.int (pm_bi q.1)))) (q.2.1, q.2.2, P, pm_T0, e) := by
  obtain ⟨hp, hw1, hw2, hw3, hw4, hw5, hw6, hw7, hw8, hw9, hw10, hw11⟩ := id hw
  have hwa := hw5.1
  have hwb := hw6.1
  have hwc := hw7.1
  have hwd := hw8.1
  unfold f44 at h
  refine fn_v rc44 (c := 3) (nf := 7) (by first | rfl | assumption) ml44 rfl rfl rfl rfl ?_
  refine al0 c44_0 ?_
  refine r_gr g44_1 rfl rfl (hp _ _ _ rfl) ?_
  refine r_ic c44_4 kI3 ?_
  refine il1 c44_5 ?_
  refine cv3 q44_6 (s106 (hp _ _ _ rfl)) rfl ?_
  refine r_ifne (t := 14) c44_9 rfl (fun h1 => ?_) (fun h1 => ?_)
  · rw [if_neg h1] at h
    refine al0 c44_14 ?_
    refine r_gr g44_15 rfl rfl (hp _ _ _ rfl) ?_
    refine r_ic c44_18 kI3 ?_
    refine il1 c44_19 ?_
    refine r_ic c44_20 kI0 ?_
    refine cz4 q44_21 (s102 (hp _ _ _ rfl)) rfl ?_
    rw [pm_lt_eq] at h
    generalize pm_sset I 3 x1 0 = I2 at h ⊢
    refine r_ic c44_24 kI1 ?_
    cases h
    exact r_rz c44_25 rt44 (by decide) rfl rfl
  · rw [if_pos h1] at h
    refine r_ic c44_12 kI0 ?_
    cases h
    exact r_rz c44_13 rt44 (by decide) rfl rfl
def f45 (x1 : Int32) (x2 : Int32) (I : Nat → Nat → Int32) (J : Nat → Nat → Int64) : Option (Bool × (Nat → Nat → Int32) × (Nat → Nat → Int64)) := (if (v30 x1 3 I) = true then some (false, I, J) else (if (pm_sget (I 5) 5 x1) = x2 then some (false, I, J) else pm_lt (pm_sset I 5 x1 x2) (fun I3 => some (true, I3, J))))
theorem d45 {X : (Nat → Int32) × Nat} {d : Nat} {I : Nat → Nat → Int32} {J : Nat → Nat → Int64} {P : Nat → Nat → Value} {e r k r2 k2 : Nat} {x1 : Int32} {x2 : Int32} {q : Bool × (Nat → Nat → Int32) × (Nat → Nat → Int64)} (hw : pm_W P r k r2 k2)  (h : f45 x1 x2 I J = some q) : pm_Fn X (d + 3) 45 1 [.ref 3, .int x1, .int x2] (I, J, P, pm_T0, e) (.inl (some (.int (pm_bi q.1)))) (q.2.1, q.2.2, P, pm_T0, e) := by
  obtain ⟨hp, hw1, hw2, hw3, hw4, hw5, hw6, hw7, hw8, hw9, hw10, hw11⟩ := id hw
  have hwa := hw5.1
  have hwb := hw6.1
  have hwc := hw7.1
  have hwd := hw8.1
  unfold f45 at h
  refine fn_v rc45 (c := 3) (nf := 7) (by first | rfl | assumption) ml45 rfl rfl rfl rfl ?_
  refine al0 c45_0 ?_
  refine il1 c45_1 ?_
  refine r_ic c45_2 kI3 ?_
  refine cv3 q45_3 (d30 hw rfl) rfl ?_
  refine r_ifne (t := 22) c45_6 rfl (fun h1 => ?_) (fun h1 => ?_)
  · rw [if_pos (pm_bt h1)] at h
    refine r_ic c45_22 kI0 ?_
    cases h
    exact r_rz c45_23 rt45 (by decide) rfl rfl
  · rw [if_neg (pm_bf h1)] at h
    refine al0 c45_9 ?_
    refine r_gr g45_10 rfl rfl (hp _ _ _ rfl) ?_
    refine r_ic c45_13 kI5 ?_
    refine il1 c45_14 ?_
    refine cv3 q45_15 (s106 (hp _ _ _ rfl)) rfl ?_
    refine il2 c45_18 ?_
    refine r_icne (t := 24) c45_19 rfl (fun h2 => ?_) (fun h2 => ?_)
    · rw [if_neg h2] at h
      refine al0 c45_24 ?_
      refine r_gr g45_25 rfl rfl (hp _ _ _ rfl) ?_
      refine r_ic c45_28 kI5 ?_
      refine il1 c45_29 ?_
      refine il2 c45_30 ?_
      refine cz4 q45_31 (s102 (hp _ _ _ rfl)) rfl ?_
      rw [pm_lt_eq] at h
      generalize pm_sset I 5 x1 x2 = I3 at h ⊢
      refine r_ic c45_34 kI1 ?_
      cases h
      exact r_rz c45_35 rt45 (by decide) rfl rfl
    · rw [if_pos h2] at h
      refine r_ic c45_22 kI0 ?_
      cases h
      exact r_rz c45_23 rt45 (by decide) rfl rfl
def f47 (r : Nat) (x1 : Int32) (I : Nat → Nat → Int32) (J : Nat → Nat → Int64) : Option (Int32 × (Nat → Nat → Int32) × (Nat → Nat → Int64)) := (if (v30 x1 3 I) = true then some (0, I, J) else (f32 r x1 I J).bind (fun (ov2, I3, J4) => (f18 6 I3 J4).bind (fun (ov6, I7, J8) => some (pm_max 0 (ov6 - (pm_sget (I7 5) 2 x1)), I7, J8))))
theorem d47 {X : (Nat → Int32) × Nat} {d : Nat} {I : Nat → Nat → Int32} {J : Nat → Nat → Int64} {P : Nat → Nat → Value} {e r k r2 k2 : Nat} {x1 : Int32} {q : Int32 × (Nat → Nat → Int32) × (Nat → Nat → Int64)} (hw : pm_W P r k r2 k2)  (h : f47 r x1 I J = some q) : pm_Fn X (d + 3) 47 1 [.ref 3, .int x1] (I, J, P, pm_T0, e) (.inl (some (.int q.1))) (q.2.1, q.2.2, P, pm_T0, e) := by
  obtain ⟨hp, hw1, hw2, hw3, hw4, hw5, hw6, hw7, hw8, hw9, hw10, hw11⟩ := id hw
  have hwa := hw5.1
  have hwb := hw6.1
  have hwc := hw7.1
  have hwd := hw8.1
  unfold f47 at h
  refine fn_v rc47 (c := 3) (nf := 7) (by first | rfl | assumption) ml47 rfl rfl rfl rfl ?_
  refine al0 c47_0 ?_
  refine il1 c47_1 ?_
  refine r_ic c47_2 kI3 ?_
  refine cv3 q47_3 (d30 hw rfl) rfl ?_
  refine r_ifeq (t := 11) c47_6 rfl (fun h1 => ?_) (fun h1 => ?_)
  · rw [if_neg (pm_bf h1)] at h
    refine al0 c47_11 ?_
    refine il1 c47_12 ?_
    obtain ⟨⟨ov2, I3, J4⟩, e5, h⟩ := pm_bd_sp h
    dsimp only at h
    refine cz2 q47_13 (μ1 := (I3, J4, P, pm_T0, e)) (d32 hw e5) rfl ?_
    refine r_ic c47_16 kI0 ?_
    refine al0 c47_17 ?_
    refine r_gr g47_18 rfl rfl (hp _ _ _ rfl) ?_
    refine al0 c47_21 ?_
    refine r_gr g47_22 rfl rfl (hp _ _ _ rfl) ?_
    obtain ⟨⟨ov6, I7, J8⟩, e9, h⟩ := pm_bd_sp h
    dsimp only at h
    refine cv2 q47_25 (v := .int ov6) (μ1 := (I7, J8, P, pm_T0, e)) (d18 hw (by first | rfl | assumption | decide) e9) rfl ?_
    refine al0 c47_28 ?_
    refine r_gr g47_29 rfl rfl (hp _ _ _ rfl) ?_
    refine r_ic c47_32 kI2 ?_
    refine il1 c47_33 ?_
    refine cv3 q47_34 (s106 (hp _ _ _ rfl)) rfl ?_
    refine r_isub c47_37 ?_
    refine cv2 q47_38 s362 rfl ?_
    cases h
    exact r_ri c47_41 rt47 rfl rfl
  · rw [if_pos (pm_bt h1)] at h
    refine r_ic c47_9 kI0 ?_
    cases h
    exact r_ri c47_10 rt47 rfl rfl
def v48 (x1 : Int32) (x2 : Int32) (I : Nat → Nat → Int32) : Bool := (if (v30 x1 1 I) = true then (if (pm_sget (I 5) 6 x1).toInt < x2.toInt then false else true) else (if (v30 x1 2 I) = true then (if (pm_sget (I 5) 6 x1).toInt < x2.toInt then false else true) else false))
theorem d48 {X : (Nat → Int32) × Nat} {d : Nat} {I : Nat → Nat → Int32} {J : Nat → Nat → Int64} {P : Nat → Nat → Value} {e r k r2 k2 : Nat} {x1 : Int32} {x2 : Int32} {q : Bool} (hw : pm_W P r k r2 k2)  (h : v48 x1 x2 I = q) : pm_Fn X (d + 3) 48 1 [.ref 3, .int x1, .int x2] (I, J, P, pm_T0, e) (.inl (some (.int (pm_bi q)))) (I, J, P, pm_T0, e) := by
  obtain ⟨hp, hw1, hw2, hw3, hw4, hw5, hw6, hw7, hw8, hw9, hw10, hw11⟩ := id hw
  have hwa := hw5.1
  have hwb := hw6.1
  have hwc := hw7.1
  have hwd := hw8.1
  unfold v48 at h
  refine fn_v rc48 (c := 3) (nf := 7) (by first | rfl | assumption) ml48 rfl rfl rfl rfl ?_
  refine al0 c48_0 ?_
  refine il1 c48_1 ?_
  refine r_ic c48_2 kI1 ?_
  refine cv3 q48_3 (d30 hw rfl) rfl ?_
  refine r_ifne (t := 18) c48_6 rfl (fun h1 => ?_) (fun h1 => ?_)
  · rw [if_pos (pm_bt h1)] at h
    refine al0 c48_18 ?_
    refine r_gr g48_19 rfl rfl (hp _ _ _ rfl) ?_
    refine r_bi c48_22 kB6 ?_
    refine il1 c48_24 ?_
    refine cv3 q48_25 (s106 (hp _ _ _ rfl)) rfl ?_
    refine il2 c48_28 ?_
    refine r_iclt (t := 36) c48_29 rfl (fun h2 => ?_) (fun h2 => ?_)
    · rw [if_pos h2] at h
      refine r_ic c48_36 kI0 ?_
      cases h
      exact r_rz c48_37 rt48 (by decide) rfl rfl
    · rw [if_neg (Int.not_lt.mpr h2)] at h
      refine r_ic c48_32 kI1 ?_
      refine r_go (t := 37) c48_33 rfl ?_
      cases h
      exact r_rz c48_37 rt48 (by decide) rfl rfl
  · rw [if_neg (pm_bf h1)] at h
    refine al0 c48_9 ?_
    refine il1 c48_10 ?_
    refine r_ic c48_11 kI2 ?_
    refine cv3 q48_12 (d30 hw rfl) rfl ?_
    refine r_ifeq (t := 36) c48_15 rfl (fun h3 => ?_) (fun h3 => ?_)
    · rw [if_neg (pm_bf h3)] at h
      refine r_ic c48_36 kI0 ?_
      cases h
      exact r_rz c48_37 rt48 (by decide) rfl rfl
    · rw [if_pos (pm_bt h3)] at h
      refine al0 c48_18 ?_
      refine r_gr g48_19 rfl rfl (hp _ _ _ rfl) ?_
      refine r_bi c48_22 kB6 ?_
      refine il1 c48_24 ?_
      refine cv3 q48_25 (s106 (hp _ _ _ rfl)) rfl ?_
      refine il2 c48_28 ?_
      refine r_iclt (t := 36) c48_29 rfl (fun h4 => ?_) (fun h4 => ?_)
      · rw [if_pos h4] at h
        refine r_ic c48_36 kI0 ?_
        cases h
        exact r_rz c48_37 rt48 (by decide) rfl rfl
      · rw [if_neg (Int.not_lt.mpr h4)] at h
        refine r_ic c48_32 kI1 ?_
        refine r_go (t := 37) c48_33 rfl ?_
        cases h
        exact r_rz c48_37 rt48 (by decide) rfl rfl
def f49 (x1 : Int32) (I : Nat → Nat → Int32) (J : Nat → Nat → Int64) : Option (Unit × (Nat → Nat → Int32) × (Nat → Nat → Int64)) := pm_lt (pm_sset I 0 x1 3) (fun I1 => pm_lt (pm_sset I1 1 x1 (-1)) (fun I2 => some ((), I2, J)))
theorem d49 {X : (Nat → Int32) × Nat} {d : Nat} {I : Nat → Nat → Int32} {J : Nat → Nat → Int64} {P : Nat → Nat → Value} {e r k r2 k2 : Nat} {x1 : Int32} {q : Unit × (Nat → Nat → Int32) × (Nat → Nat → Int64)} (hw : pm_W P r k r2 k2)  (h : f49 x1 I J = some q) : pm_Fn X (d + 2) 49 1 [.ref 3, .int x1] (I, J, P, pm_T0, e) (.inl none) (q.2.1, q.2.2, P, pm_T0, e) := by
  obtain ⟨hp, hw1, hw2, hw3, hw4, hw5, hw6, hw7, hw8, hw9, hw10, hw11⟩ := id hw
  have hwa := hw5.1
  have hwb := hw6.1
  have hwc := hw7.1
  have hwd := hw8.1
  unfold f49 at h
  refine fn_v rc49 (c := 3) (nf := 7) (by first | rfl | assumption) ml49 rfl rfl rfl rfl ?_
  refine al0 c49_0 ?_
  refine r_gr g49_1 rfl rfl (hp _ _ _ rfl) ?_
  refine r_ic c49_4 kI0 ?_
  refine il1 c49_5 ?_
  refine r_ic c49_6 kI3 ?_
  refine cz4 q49_7 (s102 (hp _ _ _ rfl)) rfl ?_
  rw [pm_lt_eq] at h
  generalize pm_sset I 0 x1 3 = I1 at h ⊢
  refine al0 c49_10 ?_
  refine r_gr g49_11 rfl rfl (hp _ _ _ rfl) ?_
  refine r_ic c49_14 kI1 ?_
  refine il1 c49_15 ?_
  refine r_ic c49_16 kIm1 ?_
  refine cz4 q49_17 (s102 (hp _ _ _ rfl)) rfl ?_
  rw [pm_lt_eq] at h
  generalize pm_sset I1 1 x1 (-1) = I2 at h ⊢
  cases h
  exact r_rv c49_20 rt49 rfl
def f46 (r : Nat) (x1 : Int32) (I : Nat → Nat → Int32) (J : Nat → Nat → Int64) : Option (Bool × (Nat → Nat → Int32) × (Nat → Nat → Int64)) := (f47 r x1 I J).bind (fun (ov1, I2, J3) => (if (v48 x1 (ov1 / 4) I2) = true then pm_lt (pm_sset I2 6 x1 ((pm_sget (I2 5) 6 x1) - (ov1 / 4))) (fun I6 => (f49 x1 I6 J3).bind (fun (ov7, I8, J9) => some (true, I8, J9))) else some (false, I2, J3)))
theorem d46 {X : (Nat → Int32) × Nat} {d : Nat} {I : Nat → Nat → Int32} {J : Nat → Nat → Int64} {P : Nat → Nat → Value} {e r k r2 k2 : Nat} {x1 : Int32} {q : Bool × (Nat → Nat → Int32) × (Nat → Nat → Int64)} (hw : pm_W P r k r2 k2)  (h : f46 r x1 I J = some q) : pm_Fn X (d + 4) 46 1 [.ref 3, .int x1] (I, J, P, pm_T0, e) (.inl (some (.int (pm_bi q.1)))) (q.2.1, q.2.2, P, pm_T0, e) := by
  obtain ⟨hp, hw1, hw2, hw3, hw4, hw5, hw6, hw7, hw8, hw9, hw10, hw11⟩ := id hw
  have hwa := hw5.1
  have hwb := hw6.1
  have hwc := hw7.1
  have hwd := hw8.1
  unfold f46 at h
  refine fn_v rc46 (c := 3) (nf := 7) (by first | rfl | assumption) ml46 rfl rfl rfl rfl ?_
  refine al0 c46_0 ?_
  refine il1 c46_1 ?_
  obtain ⟨⟨ov1, I2, J3⟩, e4, h⟩ := pm_bd_sp h
  dsimp only at h
  refine cv2 q46_2 (v := .int ov1) (μ1 := (I2, J3, P, pm_T0, e)) (d47 hw e4) rfl ?_
  refine r_ic c46_5 kI4 ?_
  refine r_idiv c46_6 (by decide) ?_
  refine is2 c46_7 rfl ?_
  refine al0 c46_8 ?_
  refine il1 c46_9 ?_
  refine il2 c46_10 ?_
  refine cv3 q46_11 (d48 hw rfl) rfl ?_
  refine r_ifne (t := 19) c46_14 rfl (fun h5 => ?_) (fun h5 => ?_)
  · rw [if_pos (pm_bt h5)] at h
    refine al0 c46_19 ?_
    refine r_gr g46_20 rfl rfl (hp _ _ _ rfl) ?_
    refine r_bi c46_23 kB6 ?_
    refine il1 c46_25 ?_
    refine al0 c46_26 ?_
    refine r_gr g46_27 rfl rfl (hp _ _ _ rfl) ?_
    refine r_bi c46_30 kB6 ?_
    refine il1 c46_32 ?_
    refine cv3 q46_33 (s106 (hp _ _ _ rfl)) rfl ?_
    refine il2 c46_36 ?_
    refine r_isub c46_37 ?_
    refine cz4 q46_38 (s102 (hp _ _ _ rfl)) rfl ?_
    rw [pm_lt_eq] at h
    generalize pm_sset I2 6 x1 ((pm_sget (I2 5) 6 x1) - (ov1 / 4)) = I6 at h ⊢
    refine al0 c46_41 ?_
    refine il1 c46_42 ?_
    obtain ⟨⟨ov7, I8, J9⟩, e10, h⟩ := pm_bd_sp h
    dsimp only at h
    refine cz2 q46_43 (μ1 := (I8, J9, P, pm_T0, e)) (d49 hw e10) rfl ?_
    refine r_ic c46_46 kI1 ?_
    cases h
    exact r_rz c46_47 rt46 (by decide) rfl rfl
  · rw [if_neg (pm_bf h5)] at h
    refine r_ic c46_17 kI0 ?_
    cases h
    exact r_rz c46_18 rt46 (by decide) rfl rfl
def v108  (I : Nat → Nat → Int32) : Int32 := pm_at (I 5) 66 65
theorem d108 {X : (Nat → Int32) × Nat} {d : Nat} {I : Nat → Nat → Int32} {J : Nat → Nat → Int64} {P : Nat → Nat → Value} {e r k r2 k2 : Nat}  {q : Int32} (hw : pm_W P r k r2 k2)  (h : v108  I = q) : pm_Fn X (d + 1) 108 1 [.ref 4] (I, J, P, pm_T0, e) (.inl (some (.int q))) (I, J, P, pm_T0, e) := by
  obtain ⟨hp, hw1, hw2, hw3, hw4, hw5, hw6, hw7, hw8, hw9, hw10, hw11⟩ := id hw
  have hwa := hw5.1
  have hwb := hw6.1
  have hwc := hw7.1
  have hwd := hw8.1
  unfold v108 at h
  refine fn_v rc108 (c := 6) (nf := 1) (by first | rfl | assumption) ml108 rfl rfl rfl rfl ?_
  refine al0 c108_0 ?_
  refine r_gr g108_1 rfl rfl (hp _ _ _ rfl) ?_
  refine r_bi c108_4 kB65 ?_
  refine cv2 q108_6 (s160 (by first | rfl | assumption) (by first | decide | assumption)) rfl ?_
  cases h
  exact r_ri c108_9 rt108 rfl rfl
def f51 (x1 : Int32) (I : Nat → Nat → Int32) (J : Nat → Nat → Int64) : Option (Unit × (Nat → Nat → Int32) × (Nat → Nat → Int64)) := (if 0 < (v108  I).toInt then (f104 ((v108  I) - 1) I J).bind (fun (ov3, I4, J5) => some ((), I4, J5)) else pm_lt (pm_sset I 4 x1 ((pm_sget (I 5) 4 x1) + 1)) (fun I2 => some ((), I2, J)))
theorem d51 {X : (Nat → Int32) × Nat} {d : Nat} {I : Nat → Nat → Int32} {J : Nat → Nat → Int64} {P : Nat → Nat → Value} {e r k r2 k2 : Nat} {x1 : Int32} {q : Unit × (Nat → Nat → Int32) × (Nat → Nat → Int64)} (hw : pm_W P r k r2 k2)  (h : f51 x1 I J = some q) : pm_Fn X (d + 2) 51 1 [.ref 3, .int x1] (I, J, P, pm_T0, e) (.inl none) (q.2.1, q.2.2, P, pm_T0, e) := by
  obtain ⟨hp, hw1, hw2, hw3, hw4, hw5, hw6, hw7, hw8, hw9, hw10, hw11⟩ := id hw
  have hwa := hw5.1
  have hwb := hw6.1
  have hwc := hw7.1
  have hwd := hw8.1
  unfold f51 at h
  refine fn_v rc51 (c := 3) (nf := 7) (by first | rfl | assumption) ml51 rfl rfl rfl rfl ?_
  refine al0 c51_0 ?_
  refine r_gr g51_1 rfl rfl (hp _ _ _ rfl) ?_
  refine cv1 q51_4 (d108 hw rfl) rfl ?_
  refine r_ifle (t := 29) c51_7 rfl (fun h1 => ?_) (fun h1 => ?_)
  · rw [if_neg (Int.not_lt.mpr h1)] at h
    refine al0 c51_29 ?_
    refine r_gr g51_30 rfl rfl (hp _ _ _ rfl) ?_
    refine r_ic c51_33 kI4 ?_
    refine il1 c51_34 ?_
    refine al0 c51_35 ?_
    refine r_gr g51_36 rfl rfl (hp _ _ _ rfl) ?_
    refine r_ic c51_39 kI4 ?_
    refine il1 c51_40 ?_
    refine cv3 q51_41 (s106 (hp _ _ _ rfl)) rfl ?_
    refine r_ic c51_44 kI1 ?_
    refine r_iadd c51_45 ?_
    refine cz4 q51_46 (s102 (hp _ _ _ rfl)) rfl ?_
    rw [pm_lt_eq] at h
    generalize pm_sset I 4 x1 ((pm_sget (I 5) 4 x1) + 1) = I2 at h ⊢
    cases h
    exact r_rv c51_49 rt51 rfl
  · rw [if_pos h1] at h
    refine al0 c51_10 ?_
    refine r_gr g51_11 rfl rfl (hp _ _ _ rfl) ?_
    refine al0 c51_14 ?_
    refine r_gr g51_15 rfl rfl (hp _ _ _ rfl) ?_
    refine cv1 q51_18 (d108 hw rfl) rfl ?_
    refine r_ic c51_21 kI1 ?_
    refine r_isub c51_22 ?_
    obtain ⟨⟨ov3, I4, J5⟩, e6, h⟩ := pm_bd_sp h
    dsimp only at h
    refine cz2 q51_23 (μ1 := (I4, J5, P, pm_T0, e)) (d104 hw e6) rfl ?_
    refine r_go (t := 49) c51_26 rfl ?_
    cases h
    exact r_rv c51_49 rt51 rfl
def f50_L (r : Nat)  : Nat → Nat → Int32 → (Nat → Nat → Int32) → (Nat → Nat → Int64) → Option (Bool × (Nat → Nat → Int32) × (Nat → Nat → Int64))
  | 0, _, _, _, _ => none
  | fu + 1, 0, y1, I, J => (if y1.toInt < (I r 7).toInt then (if (v30 y1 0 I) = true then (f51 y1 I J).bind (fun (ov9, I10, J11) => f50_L r fu 0 (y1 + 1) I10 J11) else (if (v30 y1 2 I) = true then pm_lt (pm_sset I 2 y1 ((pm_sget (I 5) 2 y1) + 1)) (fun I8 => f50_L r fu 0 (y1 + 1) I8 J) else f50_L r fu 0 (y1 + 1) I J)) else (f103 ((v107  I) + 1) I J).bind (fun (ov2, I3, J4) => f50_L r fu 1 0 I3 J4))
  | fu + 1, _ + 1, y1, I, J => (if y1.toInt < (I r 7).toInt then (if (v30 y1 2 I) = true then (f47 r y1 I J).bind (fun (ov15, I16, J17) => (if ov15 = 0 then (f49 y1 I16 J17).bind (fun (ov20, I21, J22) => f50_L r fu 1 (y1 + 1) I21 J22) else f50_L r fu 1 (y1 + 1) I16 J17)) else f50_L r fu 1 (y1 + 1) I J) else some (true, I, J))
def f50 (r : Nat)  (I : Nat → Nat → Int32) (J : Nat → Nat → Int64) : Option (Bool × (Nat → Nat → Int32) × (Nat → Nat → Int64)) := (if (v107  I).toInt < (900 : Int32).toInt then f50_L r pm_FU 0 0 I J else some (false, I, J))
theorem d50_L {X : (Nat → Int32) × Nat} {d : Nat} {P : Nat → Nat → Value} {e r k r2 k2 : Nat}  (hw : pm_W P r k r2 k2)  : ∀ fu : Nat, (∀ {y1 : Int32} {I : Nat → Nat → Int32} {J : Nat → Nat → Int64} {q : Bool × (Nat → Nat → Int32) × (Nat → Nat → Int64)} (h : f50_L r fu 0 y1 I J = some q), pm_Fx X (d + 4) 50 17 [.ref 3, .int y1] [] (I, J, P, pm_T0, e) (.inl (some (.int (pm_bi q.1)))) (q.2.1, q.2.2, P, pm_T0, e)) ∧ (∀ {y1 : Int32} {I : Nat → Nat → Int32} {J : Nat → Nat → Int64} {q : Bool × (Nat → Nat → Int32) × (Nat → Nat → Int64)} (h : f50_L r fu 1 y1 I J = some q), pm_Fx X (d + 4) 50 98 [.ref 3, .int y1] [] (I, J, P, pm_T0, e) (.inl (some (.int (pm_bi q.1)))) (q.2.1, q.2.2, P, pm_T0, e)) := by
  obtain ⟨hp, hw1, hw2, hw3, hw4, hw5, hw6, hw7, hw8, hw9, hw10, hw11⟩ := id hw
  have hwa := hw5.1
  have hwb := hw6.1
  have hwc := hw7.1
  have hwd := hw8.1
  intro fu
  induction fu with
  | zero => exact ⟨(by intro y1 I J q h; cases h), (by intro y1 I J q h; cases h)⟩
  | succ fu ih =>
    refine ⟨?_, ?_⟩
    · intro y1 I J q h
      rw [f50_L] at h
      refine il1 c50_17 ?_
      refine al0 c50_18 ?_
      refine r_gr g50_19 rfl rfl hw1 ?_
      refine cv1 q50_22 (s81 (by first | rfl | assumption)) rfl ?_
      refine r_icge (t := 80) c50_25 rfl (fun h1 => ?_) (fun h1 => ?_)
      · rw [if_neg (Int.not_lt.mpr h1)] at h
        refine al0 c50_80 ?_
        refine r_gr g50_81 rfl rfl (hp _ _ _ rfl) ?_
        refine al0 c50_84 ?_
        refine r_gr g50_85 rfl rfl (hp _ _ _ rfl) ?_
        refine cv1 q50_88 (d107 hw rfl) rfl ?_
        refine r_ic c50_91 kI1 ?_
        refine r_iadd c50_92 ?_
        obtain ⟨⟨ov2, I3, J4⟩, e5, h⟩ := pm_bd_sp h
        dsimp only at h
        refine cz2 q50_93 (μ1 := (I3, J4, P, pm_T0, e)) (d103 hw e5) rfl ?_
        refine r_ic c50_96 kI0 ?_
        refine is1 c50_97 rfl ?_
        exact ih.2 h
      · rw [if_pos h1] at h
        refine al0 c50_28 ?_
        refine il1 c50_29 ?_
        refine r_ic c50_30 kI0 ?_
        refine cv3 q50_31 (d30 hw rfl) rfl ?_
        refine r_ifeq (t := 45) c50_34 rfl (fun h6 => ?_) (fun h6 => ?_)
        · rw [if_neg (pm_bf h6)] at h
          refine al0 c50_45 ?_
          refine il1 c50_46 ?_
          refine r_ic c50_47 kI2 ?_
          refine cv3 q50_48 (d30 hw rfl) rfl ?_
          refine r_ifeq (t := 74) c50_51 rfl (fun h7 => ?_) (fun h7 => ?_)
          · rw [if_neg (pm_bf h7)] at h
            refine ii1 c50_74 kI1 rfl ?_
            refine r_go (t := 17) c50_77 rfl ?_
            exact ih.1 h
          · rw [if_pos (pm_bt h7)] at h
            refine al0 c50_54 ?_
            refine r_gr g50_55 rfl rfl (hp _ _ _ rfl) ?_
            refine r_ic c50_58 kI2 ?_
            refine il1 c50_59 ?_
            refine al0 c50_60 ?_
            refine r_gr g50_61 rfl rfl (hp _ _ _ rfl) ?_
            refine r_ic c50_64 kI2 ?_
            refine il1 c50_65 ?_
            refine cv3 q50_66 (s106 (hp _ _ _ rfl)) rfl ?_
            refine r_ic c50_69 kI1 ?_
            refine r_iadd c50_70 ?_
            refine cz4 q50_71 (s102 (hp _ _ _ rfl)) rfl ?_
            rw [pm_lt_eq] at h
            generalize pm_sset I 2 y1 ((pm_sget (I 5) 2 y1) + 1) = I8 at h ⊢
            refine ii1 c50_74 kI1 rfl ?_
            refine r_go (t := 17) c50_77 rfl ?_
            exact ih.1 h
        · rw [if_pos (pm_bt h6)] at h
          refine al0 c50_37 ?_
          refine il1 c50_38 ?_
          obtain ⟨⟨ov9, I10, J11⟩, e12, h⟩ := pm_bd_sp h
          dsimp only at h
          refine cz2 q50_39 (μ1 := (I10, J11, P, pm_T0, e)) (d51 hw e12) rfl ?_
          refine r_go (t := 74) c50_42 rfl ?_
          refine ii1 c50_74 kI1 rfl ?_
          refine r_go (t := 17) c50_77 rfl ?_
          exact ih.1 h
    · intro y1 I J q h
      rw [f50_L] at h
      refine il1 c50_98 ?_
      refine al0 c50_99 ?_
      refine r_gr g50_100 rfl rfl hw1 ?_
      refine cv1 q50_103 (s81 (by first | rfl | assumption)) rfl ?_
      refine r_icge (t := 137) c50_106 rfl (fun h13 => ?_) (fun h13 => ?_)
      · rw [if_neg (Int.not_lt.mpr h13)] at h
        refine r_ic c50_137 kI1 ?_
        cases h
        exact r_rz c50_138 rt50 (by decide) rfl rfl
      · rw [if_pos h13] at h
        refine al0 c50_109 ?_
        refine il1 c50_110 ?_
        refine r_ic c50_111 kI2 ?_
        refine cv3 q50_112 (d30 hw rfl) rfl ?_
        refine r_ifeq (t := 131) c50_115 rfl (fun h14 => ?_) (fun h14 => ?_)
        · rw [if_neg (pm_bf h14)] at h
          refine ii1 c50_131 kI1 rfl ?_
          refine r_go (t := 98) c50_134 rfl ?_
          exact ih.2 h
        · rw [if_pos (pm_bt h14)] at h
          refine al0 c50_118 ?_
          refine il1 c50_119 ?_
          obtain ⟨⟨ov15, I16, J17⟩, e18, h⟩ := pm_bd_sp h
          dsimp only at h
          refine cv2 q50_120 (v := .int ov15) (μ1 := (I16, J17, P, pm_T0, e)) (d47 hw e18) rfl ?_
          refine r_ifne (t := 131) c50_123 rfl (fun h19 => ?_) (fun h19 => ?_)
          · rw [if_neg h19] at h
            refine ii1 c50_131 kI1 rfl ?_
            refine r_go (t := 98) c50_134 rfl ?_
            exact ih.2 h
          · rw [if_pos h19] at h
            refine al0 c50_126 ?_
            refine il1 c50_127 ?_
            obtain ⟨⟨ov20, I21, J22⟩, e23, h⟩ := pm_bd_sp h
            dsimp only at h
            refine cz2 q50_128 (μ1 := (I21, J22, P, pm_T0, e)) (d49 hw e23) rfl ?_
            refine ii1 c50_131 kI1 rfl ?_
            refine r_go (t := 98) c50_134 rfl ?_
            exact ih.2 h
theorem d50 {X : (Nat → Int32) × Nat} {d : Nat} {I : Nat → Nat → Int32} {J : Nat → Nat → Int64} {P : Nat → Nat → Value} {e r k r2 k2 : Nat}  {q : Bool × (Nat → Nat → Int32) × (Nat → Nat → Int64)} (hw : pm_W P r k r2 k2)  (h : f50 r I J = some q) : pm_Fn X (d + 4) 50 1 [.ref 3] (I, J, P, pm_T0, e) (.inl (some (.int (pm_bi q.1)))) (q.2.1, q.2.2, P, pm_T0, e) := by
  obtain ⟨hp, hw1, hw2, hw3, hw4, hw5, hw6, hw7, hw8, hw9, hw10, hw11⟩ := id hw
  have hwa := hw5.1
  have hwb := hw6.1
  have hwc := hw7.1
  have hwd := hw8.1
  unfold f50 at h
  refine fn_v rc50 (c := 3) (nf := 7) (by first | rfl | assumption) ml50 rfl rfl rfl rfl ?_
  refine al0 c50_0 ?_
  refine r_gr g50_1 rfl rfl (hp _ _ _ rfl) ?_
  refine cv1 q50_4 (d107 hw rfl) rfl ?_
  refine r_si c50_7 kS900 ?_
  refine r_iclt (t := 15) c50_10 rfl (fun h1 => ?_) (fun h1 => ?_)
  · rw [if_pos h1] at h
    refine r_ic c50_15 kI0 ?_
    refine is1 c50_16 rfl ?_
    exact (d50_L hw pm_FU).1 h
  · rw [if_neg (Int.not_lt.mpr h1)] at h
    refine r_ic c50_13 kI0 ?_
    cases h
    exact r_rz c50_14 rt50 (by decide) rfl rfl
def f39 (r : Nat) (x1 : Int32) (x2 : Int32) (x3 : Int32) (I : Nat → Nat → Int32) (J : Nat → Nat → Int64) : Option (Bool × (Nat → Nat → Int32) × (Nat → Nat → Int64)) := (if x1 = 0 then (f40 r I J).bind (fun (ov2, I3, J4) => some (ov2, I3, J4)) else if x1 = 1 then (f41 r x2 x3 I J).bind (fun (ov7, I8, J9) => some (ov7, I8, J9)) else if x1 = 2 then (f43 x2 x3 I J).bind (fun (ov12, I13, J14) => some (ov12, I13, J14)) else if x1 = 3 then (f44 x2 I J).bind (fun (ov17, I18, J19) => some (ov17, I18, J19)) else if x1 = 4 then (f45 x2 1 I J).bind (fun (ov22, I23, J24) => some (ov22, I23, J24)) else if x1 = 5 then (f45 x2 0 I J).bind (fun (ov27, I28, J29) => some (ov27, I28, J29)) else if x1 = 6 then (f46 r x2 I J).bind (fun (ov32, I33, J34) => some (ov32, I33, J34)) else if x1 = 7 then (f50 r I J).bind (fun (ov37, I38, J39) => some (ov37, I38, J39)) else some (false, I, J))
theorem d39 {X : (Nat → Int32) × Nat} {d : Nat} {I : Nat → Nat → Int32} {J : Nat → Nat → Int64} {P : Nat → Nat → Value} {e r k r2 k2 : Nat} {x1 : Int32} {x2 : Int32} {x3 : Int32} {q : Bool × (Nat → Nat → Int32) × (Nat → Nat → Int64)} (hw : pm_W P r k r2 k2)  (h : f39 r x1 x2 x3 I J = some q) : pm_Fn X (d + 5) 39 1 [.ref 3, .int x1, .int x2, .int x3] (I, J, P, pm_T0, e) (.inl (some (.int (pm_bi q.1)))) (q.2.1, q.2.2, P, pm_T0, e) := by
  obtain ⟨hp, hw1, hw2, hw3, hw4, hw5, hw6, hw7, hw8, hw9, hw10, hw11⟩ := id hw
  have hwa := hw5.1
  have hwb := hw6.1
  have hwc := hw7.1
  have hwd := hw8.1
  unfold f39 at h
  refine fn_v rc39 (c := 3) (nf := 7) (by first | rfl | assumption) ml39 rfl rfl rfl rfl ?_
  refine il1 c39_0 ?_
  by_cases h1 : x1 = 0
  · rw [if_pos h1] at h
    refine r_ts (t := 48) (o := 47) c39_1 (by rw [h1]; decide) rfl ?_
    refine al0 c39_48 ?_
    obtain ⟨⟨ov2, I3, J4⟩, e5, h⟩ := pm_bd_sp h
    dsimp only at h
    refine cv1 q39_49 (v := .int (pm_bi ov2)) (μ1 := (I3, J4, P, pm_T0, e)) (d40 hw e5) rfl ?_
    cases h
    exact r_rz c39_52 rt39 (pm_bi01 _) rfl rfl
  · rw [if_neg h1] at h
    by_cases h6 : x1 = 1
    · rw [if_pos h6] at h
      refine r_ts (t := 53) (o := 52) c39_1 (by rw [h6]; decide) rfl ?_
      refine al0 c39_53 ?_
      refine il2 c39_54 ?_
      refine il3 c39_55 ?_
      obtain ⟨⟨ov7, I8, J9⟩, e10, h⟩ := pm_bd_sp h
      dsimp only at h
      refine cv3 q39_56 (v := .int (pm_bi ov7)) (μ1 := (I8, J9, P, pm_T0, e)) (d41 hw e10) rfl ?_
      cases h
      exact r_rz c39_59 rt39 (pm_bi01 _) rfl rfl
    · rw [if_neg h6] at h
      by_cases h11 : x1 = 2
      · rw [if_pos h11] at h
        refine r_ts (t := 60) (o := 59) c39_1 (by rw [h11]; decide) rfl ?_
        refine al0 c39_60 ?_
        refine il2 c39_61 ?_
        refine il3 c39_62 ?_
        obtain ⟨⟨ov12, I13, J14⟩, e15, h⟩ := pm_bd_sp h
        dsimp only at h
        refine cv3 q39_63 (v := .int (pm_bi ov12)) (μ1 := (I13, J14, P, pm_T0, e)) (d43 hw e15) rfl ?_
        cases h
        exact r_rz c39_66 rt39 (pm_bi01 _) rfl rfl
      · rw [if_neg h11] at h
        by_cases h16 : x1 = 3
        · rw [if_pos h16] at h
          refine r_ts (t := 67) (o := 66) c39_1 (by rw [h16]; decide) rfl ?_
          refine al0 c39_67 ?_
          refine il2 c39_68 ?_
          obtain ⟨⟨ov17, I18, J19⟩, e20, h⟩ := pm_bd_sp h
          dsimp only at h
          refine cv2 q39_69 (v := .int (pm_bi ov17)) (μ1 := (I18, J19, P, pm_T0, e)) (d44 hw e20) rfl ?_
          cases h
          exact r_rz c39_72 rt39 (pm_bi01 _) rfl rfl
        · rw [if_neg h16] at h
          by_cases h21 : x1 = 4
          · rw [if_pos h21] at h
            refine r_ts (t := 73) (o := 72) c39_1 (by rw [h21]; decide) rfl ?_
            refine al0 c39_73 ?_
            refine il2 c39_74 ?_
            refine r_ic c39_75 kI1 ?_
            obtain ⟨⟨ov22, I23, J24⟩, e25, h⟩ := pm_bd_sp h
            dsimp only at h
            refine cv3 q39_76 (v := .int (pm_bi ov22)) (μ1 := (I23, J24, P, pm_T0, e)) (d45 hw e25) rfl ?_
            cases h
            exact r_rz c39_79 rt39 (pm_bi01 _) rfl rfl
          · rw [if_neg h21] at h
            by_cases h26 : x1 = 5
            · rw [if_pos h26] at h
              refine r_ts (t := 80) (o := 79) c39_1 (by rw [h26]; decide) rfl ?_
              refine al0 c39_80 ?_
              refine il2 c39_81 ?_
              refine r_ic c39_82 kI0 ?_
              obtain ⟨⟨ov27, I28, J29⟩, e30, h⟩ := pm_bd_sp h
              dsimp only at h
              refine cv3 q39_83 (v := .int (pm_bi ov27)) (μ1 := (I28, J29, P, pm_T0, e)) (d45 hw e30) rfl ?_
              cases h
              exact r_rz c39_86 rt39 (pm_bi01 _) rfl rfl
            · rw [if_neg h26] at h
              by_cases h31 : x1 = 6
              · rw [if_pos h31] at h
                refine r_ts (t := 87) (o := 86) c39_1 (by rw [h31]; decide) rfl ?_
                refine al0 c39_87 ?_
                refine il2 c39_88 ?_
                obtain ⟨⟨ov32, I33, J34⟩, e35, h⟩ := pm_bd_sp h
                dsimp only at h
                refine cv2 q39_89 (v := .int (pm_bi ov32)) (μ1 := (I33, J34, P, pm_T0, e)) (d46 hw e35) rfl ?_
                cases h
                exact r_rz c39_92 rt39 (pm_bi01 _) rfl rfl
              · rw [if_neg h31] at h
                by_cases h36 : x1 = 7
                · rw [if_pos h36] at h
                  refine r_ts (t := 93) (o := 92) c39_1 (by rw [h36]; decide) rfl ?_
                  refine al0 c39_93 ?_
                  obtain ⟨⟨ov37, I38, J39⟩, e40, h⟩ := pm_bd_sp h
                  dsimp only at h
                  refine cv1 q39_94 (v := .int (pm_bi ov37)) (μ1 := (I38, J39, P, pm_T0, e)) (d50 hw e40) rfl ?_
                  cases h
                  exact r_rz c39_97 rt39 (pm_bi01 _) rfl rfl
                · rw [if_neg h36] at h
                  refine r_ts (t := 98) (o := 97) c39_1 (pm_tsd x1 [0, 1, 2, 3, 4, 5, 6, 7] (by decide) (by intro v hv; simp only [List.mem_cons, List.not_mem_nil, or_false] at hv; rcases hv with rfl | rfl | rfl | rfl | rfl | rfl | rfl | rfl <;> assumption)) rfl ?_
                  refine r_ic c39_98 kI0 ?_
                  cases h
                  exact r_rz c39_99 rt39 (by decide) rfl rfl
def f52 (x1 : Int32) (x2 : Int32) (x3 : Int32) (x4 : Int32) (x5 : Int32) (x6 : Int32) (I : Nat → Nat → Int32) (J : Nat → Nat → Int64) : Option (Int32 × (Nat → Nat → Int32) × (Nat → Nat → Int64)) := pm_lt (pm_pw I 12 8 0 x1) (fun I1 => pm_lt (pm_pw I1 12 8 1 x2) (fun I2 => pm_lt (pm_pw I2 12 8 2 x3) (fun I3 => pm_lt (pm_pw I3 12 8 3 x4) (fun I4 => pm_lt (pm_pw I4 12 8 4 0) (fun I5 => pm_lt (pm_pw I5 12 8 5 x5) (fun I6 => pm_lt (pm_pw I6 12 8 6 0) (fun I7 => pm_lt (pm_pw I7 12 8 7 x6) (fun I8 => (f18 6 I8 J).bind (fun (ov9, I10, J11) => some (ov9, I10, J11))))))))))
theorem d52 {X : (Nat → Int32) × Nat} {d : Nat} {I : Nat → Nat → Int32} {J : Nat → Nat → Int64} {P : Nat → Nat → Value} {e r k r2 k2 : Nat} {x1 : Int32} {x2 : Int32} {x3 : Int32} {x4 : Int32} {x5 : Int32} {x6 : Int32} {q : Int32 × (Nat → Nat → Int32) × (Nat → Nat → Int64)} (hw : pm_W P r k r2 k2)  (h : f52 x1 x2 x3 x4 x5 x6 I J = some q) : pm_Fn X (d + 3) 52 1 [.ref 3, .int x1, .int x2, .int x3, .int x4, .int x5, .int x6] (I, J, P, pm_T0, e) (.inl (some (.int q.1))) (q.2.1, q.2.2, P, pm_T0, e) := by
  obtain ⟨hp, hw1, hw2, hw3, hw4, hw5, hw6, hw7, hw8, hw9, hw10, hw11⟩ := id hw
  have hwa := hw5.1
  have hwb := hw6.1
  have hwc := hw7.1
  have hwd := hw8.1
  unfold f52 at h
  refine fn_v rc52 (c := 3) (nf := 7) (by first | rfl | assumption) ml52 rfl rfl rfl rfl ?_
  refine al0 c52_0 ?_
  refine r_gr g52_1 rfl rfl (hp _ _ _ rfl) ?_
  refine r_ic c52_4 kI0 ?_
  refine il1 c52_5 ?_
  refine cz3 q52_6 (t159 (by first | rfl | assumption) (by first | decide | assumption)) rfl ?_
  rw [pm_lt_eq] at h
  generalize pm_pw I 12 8 0 x1 = I1 at h ⊢
  refine al0 c52_9 ?_
  refine r_gr g52_10 rfl rfl (hp _ _ _ rfl) ?_
  refine r_ic c52_13 kI1 ?_
  refine il2 c52_14 ?_
  refine cz3 q52_15 (t159 (by first | rfl | assumption) (by first | decide | assumption)) rfl ?_
  rw [pm_lt_eq] at h
  generalize pm_pw I1 12 8 1 x2 = I2 at h ⊢
  refine al0 c52_18 ?_
  refine r_gr g52_19 rfl rfl (hp _ _ _ rfl) ?_
  refine r_ic c52_22 kI2 ?_
  refine il3 c52_23 ?_
  refine cz3 q52_24 (t159 (by first | rfl | assumption) (by first | decide | assumption)) rfl ?_
  rw [pm_lt_eq] at h
  generalize pm_pw I2 12 8 2 x3 = I3 at h ⊢
  refine al0 c52_27 ?_
  refine r_gr g52_28 rfl rfl (hp _ _ _ rfl) ?_
  refine r_ic c52_31 kI3 ?_
  refine il4 c52_32 ?_
  refine cz3 q52_34 (t159 (by first | rfl | assumption) (by first | decide | assumption)) rfl ?_
  rw [pm_lt_eq] at h
  generalize pm_pw I3 12 8 3 x4 = I4 at h ⊢
  refine al0 c52_37 ?_
  refine r_gr g52_38 rfl rfl (hp _ _ _ rfl) ?_
  refine r_ic c52_41 kI4 ?_
  refine r_ic c52_42 kI0 ?_
  refine cz3 q52_43 (t159 (by first | rfl | assumption) (by first | decide | assumption)) rfl ?_
  rw [pm_lt_eq] at h
  generalize pm_pw I4 12 8 4 0 = I5 at h ⊢
  refine al0 c52_46 ?_
  refine r_gr g52_47 rfl rfl (hp _ _ _ rfl) ?_
  refine r_ic c52_50 kI5 ?_
  refine il5 c52_51 ?_
  refine cz3 q52_53 (t159 (by first | rfl | assumption) (by first | decide | assumption)) rfl ?_
  rw [pm_lt_eq] at h
  generalize pm_pw I5 12 8 5 x5 = I6 at h ⊢
  refine al0 c52_56 ?_
  refine r_gr g52_57 rfl rfl (hp _ _ _ rfl) ?_
  refine r_bi c52_60 kB6 ?_
  refine r_ic c52_62 kI0 ?_
  refine cz3 q52_63 (t159 (by first | rfl | assumption) (by first | decide | assumption)) rfl ?_
  rw [pm_lt_eq] at h
  generalize pm_pw I6 12 8 6 0 = I7 at h ⊢
  refine al0 c52_66 ?_
  refine r_gr g52_67 rfl rfl (hp _ _ _ rfl) ?_
  refine r_bi c52_70 kB7 ?_
  refine il6 c52_72 ?_
  refine cz3 q52_74 (t159 (by first | rfl | assumption) (by first | decide | assumption)) rfl ?_
  rw [pm_lt_eq] at h
  generalize pm_pw I7 12 8 7 x6 = I8 at h ⊢
  refine al0 c52_77 ?_
  refine r_gr g52_78 rfl rfl (hp _ _ _ rfl) ?_
  refine al0 c52_81 ?_
  refine r_gr g52_82 rfl rfl (hp _ _ _ rfl) ?_
  obtain ⟨⟨ov9, I10, J11⟩, e12, h⟩ := pm_bd_sp h
  dsimp only at h
  refine cv2 q52_85 (v := .int ov9) (μ1 := (I10, J11, P, pm_T0, e)) (d18 hw (by first | rfl | assumption | decide) e12) rfl ?_
  cases h
  exact r_ri c52_88 rt52 rfl rfl
def f53_37 (r : Nat)  : Nat → Int32 → Nat → Int32 → Int32 → (Nat → Nat → Int32) → (Nat → Nat → Int64) → Option (Int32 × (Nat → Nat → Int32) × (Nat → Nat → Int64))
  | 0, _, _, _, _, _, _ => none
  | fu + 1, y3, y4, y5, y6, I, J => (if y3.toInt < y6.toInt then some ((-1), I, J) else pm_lt (pm_pw I 12 8 7 ((v107  I) + y6)) (fun I2 => (f18 y4 I2 J).bind (fun (ov3, I4, J5) => (if (y5 + y6).toInt < ov3.toInt then f53_37 r fu y3 y4 y5 (y6 + 1) I4 J5 else some (y6, I4, J5)))))
def f53 (r : Nat) (x1 : Int32) (x2 : Int32) (x3 : Int32) (I : Nat → Nat → Int32) (J : Nat → Nat → Int64) : Option (Int32 × (Nat → Nat → Int32) × (Nat → Nat → Int64)) := (if (v30 x1 2 I) = true then (f32 r x1 I J).bind (fun (ov3, I4, J5) => f53_37 r pm_FU x3 (if x2 = 0 then 6 else 9) (pm_sget (I 5) 2 x1) 1 I4 J5) else some ((-1), I, J))
theorem d53_37 {X : (Nat → Int32) × Nat} {d : Nat} {P : Nat → Nat → Value} {e r k r2 k2 : Nat}  (hw : pm_W P r k r2 k2)  : ∀ (fu : Nat) {y4 : Nat} (hl4 : pm_lwT P y4) {y3 y5 y6 : Int32} {I : Nat → Nat → Int32} {J : Nat → Nat → Int64} {q : Int32 × (Nat → Nat → Int32) × (Nat → Nat → Int64)} {z1 : Value} {z2 : Value} (h : f53_37 r fu y3 y4 y5 y6 I J = some q), pm_Fx X (d + 3) 53 37 [.ref 3, z1, z2, .int y3, .ref y4, .int y5, .int y6] [] (I, J, P, pm_T0, e) (.inl (some (.int q.1))) (q.2.1, q.2.2, P, pm_T0, e) := by
  obtain ⟨hp, hw1, hw2, hw3, hw4, hw5, hw6, hw7, hw8, hw9, hw10, hw11⟩ := id hw
  have hwa := hw5.1
  have hwb := hw6.1
  have hwc := hw7.1
  have hwd := hw8.1
  intro fu
  induction fu with
  | zero => intro y4 hl4 y3 y5 y6 I J q z1 z2 h; cases h
  | succ fu ih =>
    intro y4 hl4 y3 y5 y6 I J q z1 z2 h
    rw [f53_37] at h
    refine il6 c53_37 ?_
    refine il3 c53_39 ?_
    refine r_icgt (t := 88) c53_40 rfl (fun h1 => ?_) (fun h1 => ?_)
    · rw [if_pos h1] at h
      refine r_ic c53_88 kIm1 ?_
      cases h
      exact r_ri c53_89 rt53 rfl rfl
    · rw [if_neg (Int.not_lt.mpr h1)] at h
      refine al0 c53_43 ?_
      refine r_gr g53_44 rfl rfl (hp _ _ _ rfl) ?_
      refine r_bi c53_47 kB7 ?_
      refine al0 c53_49 ?_
      refine r_gr g53_50 rfl rfl (hp _ _ _ rfl) ?_
      refine cv1 q53_53 (d107 hw rfl) rfl ?_
      refine il6 c53_56 ?_
      refine r_iadd c53_58 ?_
      refine cz3 q53_59 (t159 (by first | rfl | assumption) (by first | decide | assumption)) rfl ?_
      rw [pm_lt_eq] at h
      generalize pm_pw I 12 8 7 ((v107  I) + y6) = I2 at h ⊢
      refine al4 c53_62 ?_
      refine al0 c53_64 ?_
      refine r_gr g53_65 rfl rfl (hp _ _ _ rfl) ?_
      obtain ⟨⟨ov3, I4, J5⟩, e6, h⟩ := pm_bd_sp h
      dsimp only at h
      refine cv2 q53_68 (v := .int ov3) (μ1 := (I4, J5, P, pm_T0, e)) (d18 hw (by first | rfl | assumption | decide) e6) rfl ?_
      refine il5 c53_71 ?_
      refine il6 c53_73 ?_
      refine r_iadd c53_75 ?_
      refine r_icgt (t := 82) c53_76 rfl (fun h7 => ?_) (fun h7 => ?_)
      · rw [if_pos h7] at h
        refine ii6 c53_82 kI1 rfl ?_
        refine r_go (t := 37) c53_85 rfl ?_
        exact ih (by assumption) h
      · rw [if_neg (Int.not_lt.mpr h7)] at h
        refine il6 c53_79 ?_
        cases h
        exact r_ri c53_81 rt53 rfl rfl
theorem d53 {X : (Nat → Int32) × Nat} {d : Nat} {I : Nat → Nat → Int32} {J : Nat → Nat → Int64} {P : Nat → Nat → Value} {e r k r2 k2 : Nat} {x1 : Int32} {x2 : Int32} {x3 : Int32} {q : Int32 × (Nat → Nat → Int32) × (Nat → Nat → Int64)} (hw : pm_W P r k r2 k2)  (h : f53 r x1 x2 x3 I J = some q) : pm_Fn X (d + 3) 53 1 [.ref 3, .int x1, .int x2, .int x3] (I, J, P, pm_T0, e) (.inl (some (.int q.1))) (q.2.1, q.2.2, P, pm_T0, e) := by
  obtain ⟨hp, hw1, hw2, hw3, hw4, hw5, hw6, hw7, hw8, hw9, hw10, hw11⟩ := id hw
  have hwa := hw5.1
  have hwb := hw6.1
  have hwc := hw7.1
  have hwd := hw8.1
  unfold f53 at h
  refine fn_v rc53 (c := 3) (nf := 7) (by first | rfl | assumption) ml53 rfl rfl rfl rfl ?_
  refine al0 c53_0 ?_
  refine il1 c53_1 ?_
  refine r_ic c53_2 kI2 ?_
  refine cv3 q53_3 (d30 hw rfl) rfl ?_
  refine r_ifne (t := 11) c53_6 rfl (fun h1 => ?_) (fun h1 => ?_)
  · rw [if_pos (pm_bt h1)] at h
    refine al0 c53_11 ?_
    refine il2 c53_12 ?_
    refine cv2 q53_13 (d33 hw rfl) rfl ?_
    have hl2 := pm_lw33 (x := x2) hw9 hw10
    refine rs4 c53_16 rfl ?_
    refine al0 c53_18 ?_
    refine r_gr g53_19 rfl rfl (hp _ _ _ rfl) ?_
    refine r_ic c53_22 kI2 ?_
    refine il1 c53_23 ?_
    refine cv3 q53_24 (s106 (hp _ _ _ rfl)) rfl ?_
    refine is5 c53_27 rfl ?_
    refine al0 c53_29 ?_
    refine il1 c53_30 ?_
    obtain ⟨⟨ov3, I4, J5⟩, e6, h⟩ := pm_bd_sp h
    dsimp only at h
    refine cz2 q53_31 (μ1 := (I4, J5, P, pm_T0, e)) (d32 hw e6) rfl ?_
    refine r_ic c53_34 kI1 ?_
    refine is6 c53_35 rfl ?_
    exact d53_37 hw pm_FU (by assumption) h
  · rw [if_neg (pm_bf h1)] at h
    refine r_ic c53_9 kIm1 ?_
    cases h
    exact r_ri c53_10 rt53 rfl rfl
def f54_8 (r : Nat)  : Nat → Int32 → Int32 → Int32 → (Nat → Nat → Int32) → (Nat → Nat → Int64) → Option (Int32 × (Nat → Nat → Int32) × (Nat → Nat → Int64))
  | 0, _, _, _, _, _ => none
  | fu + 1, y1, y2, y3, I, J => (if y3.toInt < (I r 7).toInt then (f53 r y3 0 y1 I J).bind (fun (ov2, I3, J4) => (if ov2 = (-1) then f54_8 r fu y1 y2 (y3 + 1) I3 J4 else f54_8 r fu y1 (y2 + 1) (y3 + 1) I3 J4)) else some (y2, I, J))
def f54 (r : Nat) (x1 : Int32) (I : Nat → Nat → Int32) (J : Nat → Nat → Int64) : Option (Int32 × (Nat → Nat → Int32) × (Nat → Nat → Int64)) := (f36 r 3 I J).bind (fun (ov1, I2, J3) => f54_8 r pm_FU x1 ov1 0 I2 J3)
theorem d54_8 {X : (Nat → Int32) × Nat} {d : Nat} {P : Nat → Nat → Value} {e r k r2 k2 : Nat}  (hw : pm_W P r k r2 k2)  : ∀ (fu : Nat) {y1 y2 y3 : Int32} {I : Nat → Nat → Int32} {J : Nat → Nat → Int64} {q : Int32 × (Nat → Nat → Int32) × (Nat → Nat → Int64)} (h : f54_8 r fu y1 y2 y3 I J = some q), pm_Fx X (d + 4) 54 8 [.ref 3, .int y1, .int y2, .int y3] [] (I, J, P, pm_T0, e) (.inl (some (.int q.1))) (q.2.1, q.2.2, P, pm_T0, e) := by
  obtain ⟨hp, hw1, hw2, hw3, hw4, hw5, hw6, hw7, hw8, hw9, hw10, hw11⟩ := id hw
  have hwa := hw5.1
  have hwb := hw6.1
  have hwc := hw7.1
  have hwd := hw8.1
  intro fu
  induction fu with
  | zero => intro y1 y2 y3 I J q h; cases h
  | succ fu ih =>
    intro y1 y2 y3 I J q h
    rw [f54_8] at h
    refine il3 c54_8 ?_
    refine al0 c54_9 ?_
    refine r_gr g54_10 rfl rfl hw1 ?_
    refine cv1 q54_13 (s81 (by first | rfl | assumption)) rfl ?_
    refine r_icge (t := 39) c54_16 rfl (fun h1 => ?_) (fun h1 => ?_)
    · rw [if_neg (Int.not_lt.mpr h1)] at h
      refine il2 c54_39 ?_
      cases h
      exact r_ri c54_40 rt54 rfl rfl
    · rw [if_pos h1] at h
      refine al0 c54_19 ?_
      refine il3 c54_20 ?_
      refine r_ic c54_21 kI0 ?_
      refine il1 c54_22 ?_
      obtain ⟨⟨ov2, I3, J4⟩, e5, h⟩ := pm_bd_sp h
      dsimp only at h
      refine cv4 q54_23 (v := .int ov2) (μ1 := (I3, J4, P, pm_T0, e)) (d53 hw e5) rfl ?_
      refine r_ic c54_26 kIm1 ?_
      refine r_iceq (t := 33) c54_27 rfl (fun h6 => ?_) (fun h6 => ?_)
      · rw [if_pos h6] at h
        refine ii3 c54_33 kI1 rfl ?_
        refine r_go (t := 8) c54_36 rfl ?_
        exact ih h
      · rw [if_neg h6] at h
        refine ii2 c54_30 kI1 rfl ?_
        refine ii3 c54_33 kI1 rfl ?_
        refine r_go (t := 8) c54_36 rfl ?_
        exact ih h
theorem d54 {X : (Nat → Int32) × Nat} {d : Nat} {I : Nat → Nat → Int32} {J : Nat → Nat → Int64} {P : Nat → Nat → Value} {e r k r2 k2 : Nat} {x1 : Int32} {q : Int32 × (Nat → Nat → Int32) × (Nat → Nat → Int64)} (hw : pm_W P r k r2 k2)  (h : f54 r x1 I J = some q) : pm_Fn X (d + 4) 54 1 [.ref 3, .int x1] (I, J, P, pm_T0, e) (.inl (some (.int q.1))) (q.2.1, q.2.2, P, pm_T0, e) := by
  obtain ⟨hp, hw1, hw2, hw3, hw4, hw5, hw6, hw7, hw8, hw9, hw10, hw11⟩ := id hw
  have hwa := hw5.1
  have hwb := hw6.1
  have hwc := hw7.1
  have hwd := hw8.1
  unfold f54 at h
  refine fn_v rc54 (c := 3) (nf := 7) (by first | rfl | assumption) ml54 rfl rfl rfl rfl ?_
  refine al0 c54_0 ?_
  refine r_ic c54_1 kI3 ?_
  obtain ⟨⟨ov1, I2, J3⟩, e4, h⟩ := pm_bd_sp h
  dsimp only at h
  refine cv2 q54_2 (v := .int ov1) (μ1 := (I2, J3, P, pm_T0, e)) (d36 hw e4) rfl ?_
  refine is2 c54_5 rfl ?_
  refine r_ic c54_6 kI0 ?_
  refine is3 c54_7 rfl ?_
  exact d54_8 hw pm_FU h
def f55_4 (r : Nat)  : Nat → Int32 → Int32 → Int32 → (Nat → Nat → Int32) → (Nat → Nat → Int64) → Option (Int32 × (Nat → Nat → Int32) × (Nat → Nat → Int64))
  | 0, _, _, _, _, _ => none
  | fu + 1, y1, y2, y3, I, J => (if y3.toInt < (I r 7).toInt then (if (v30 y3 2 I) = true then (f53 r y3 0 y1 I J).bind (fun (ov3, I4, J5) => (if ov3 = (-1) then f55_4 r fu y1 (y2 + y1) (y3 + 1) I4 J5 else f55_4 r fu y1 (y2 + ov3) (y3 + 1) I4 J5)) else f55_4 r fu y1 y2 (y3 + 1) I J) else some (y2, I, J))
def f55 (r : Nat) (x1 : Int32) (I : Nat → Nat → Int32) (J : Nat → Nat → Int64) : Option (Int32 × (Nat → Nat → Int32) × (Nat → Nat → Int64)) := f55_4 r pm_FU x1 0 0 I J
theorem d55_4 {X : (Nat → Int32) × Nat} {d : Nat} {P : Nat → Nat → Value} {e r k r2 k2 : Nat}  (hw : pm_W P r k r2 k2)  : ∀ (fu : Nat) {y1 y2 y3 : Int32} {I : Nat → Nat → Int32} {J : Nat → Nat → Int64} {q : Int32 × (Nat → Nat → Int32) × (Nat → Nat → Int64)} {z4 : Value} (h : f55_4 r fu y1 y2 y3 I J = some q), pm_Fx X (d + 4) 55 4 [.ref 3, .int y1, .int y2, .int y3, z4] [] (I, J, P, pm_T0, e) (.inl (some (.int q.1))) (q.2.1, q.2.2, P, pm_T0, e) := by
  obtain ⟨hp, hw1, hw2, hw3, hw4, hw5, hw6, hw7, hw8, hw9, hw10, hw11⟩ := id hw
  have hwa := hw5.1
  have hwb := hw6.1
  have hwc := hw7.1
  have hwd := hw8.1
  intro fu
  induction fu with
  | zero => intro y1 y2 y3 I J q z4 h; cases h
  | succ fu ih =>
    intro y1 y2 y3 I J q z4 h
    rw [f55_4] at h
    refine il3 c55_4 ?_
    refine al0 c55_5 ?_
    refine r_gr g55_6 rfl rfl hw1 ?_
    refine cv1 q55_9 (s81 (by first | rfl | assumption)) rfl ?_
    refine r_icge (t := 54) c55_12 rfl (fun h1 => ?_) (fun h1 => ?_)
    · rw [if_neg (Int.not_lt.mpr h1)] at h
      refine il2 c55_54 ?_
      cases h
      exact r_ri c55_55 rt55 rfl rfl
    · rw [if_pos h1] at h
      refine al0 c55_15 ?_
      refine il3 c55_16 ?_
      refine r_ic c55_17 kI2 ?_
      refine cv3 q55_18 (d30 hw rfl) rfl ?_
      refine r_ifeq (t := 48) c55_21 rfl (fun h2 => ?_) (fun h2 => ?_)
      · rw [if_neg (pm_bf h2)] at h
        refine ii3 c55_48 kI1 rfl ?_
        refine r_go (t := 4) c55_51 rfl ?_
        exact ih h
      · rw [if_pos (pm_bt h2)] at h
        refine al0 c55_24 ?_
        refine il3 c55_25 ?_
        refine r_ic c55_26 kI0 ?_
        refine il1 c55_27 ?_
        obtain ⟨⟨ov3, I4, J5⟩, e6, h⟩ := pm_bd_sp h
        dsimp only at h
        refine cv4 q55_28 (v := .int ov3) (μ1 := (I4, J5, P, pm_T0, e)) (d53 hw e6) rfl ?_
        refine is4 c55_31 rfl ?_
        refine il2 c55_33 ?_
        refine il4 c55_34 ?_
        refine r_ic c55_36 kIm1 ?_
        refine r_icne (t := 44) c55_37 rfl (fun h7 => ?_) (fun h7 => ?_)
        · rw [if_neg h7] at h
          refine il4 c55_44 ?_
          refine r_iadd c55_46 ?_
          refine is2 c55_47 rfl ?_
          refine ii3 c55_48 kI1 rfl ?_
          refine r_go (t := 4) c55_51 rfl ?_
          exact ih h
        · rw [if_pos h7] at h
          refine il1 c55_40 ?_
          refine r_go (t := 46) c55_41 rfl ?_
          refine r_iadd c55_46 ?_
          refine is2 c55_47 rfl ?_
          refine ii3 c55_48 kI1 rfl ?_
          refine r_go (t := 4) c55_51 rfl ?_
          exact ih h
theorem d55 {X : (Nat → Int32) × Nat} {d : Nat} {I : Nat → Nat → Int32} {J : Nat → Nat → Int64} {P : Nat → Nat → Value} {e r k r2 k2 : Nat} {x1 : Int32} {q : Int32 × (Nat → Nat → Int32) × (Nat → Nat → Int64)} (hw : pm_W P r k r2 k2)  (h : f55 r x1 I J = some q) : pm_Fn X (d + 4) 55 1 [.ref 3, .int x1] (I, J, P, pm_T0, e) (.inl (some (.int q.1))) (q.2.1, q.2.2, P, pm_T0, e) := by
  obtain ⟨hp, hw1, hw2, hw3, hw4, hw5, hw6, hw7, hw8, hw9, hw10, hw11⟩ := id hw
  have hwa := hw5.1
  have hwb := hw6.1
  have hwc := hw7.1
  have hwd := hw8.1
  unfold f55 at h
  refine fn_v rc55 (c := 3) (nf := 7) (by first | rfl | assumption) ml55 rfl rfl rfl rfl ?_
  refine r_ic c55_0 kI0 ?_
  refine is2 c55_1 rfl ?_
  refine r_ic c55_2 kI0 ?_
  refine is3 c55_3 rfl ?_
  exact d55_4 hw pm_FU h
def v56 (r : Nat) (x1 : Int32) (x2 : Int32) (x3 : Int32) (I : Nat → Nat → Int32) : Int32 := (if (pm_at (I (r + 2)) 8 x1) = (pm_at (I (r + 5)) 5 x3) then ((pm_at (I (r + 6)) 5 x3) * x2) / 52 else (((pm_at (I (r + 6)) 5 x3) * x2) / 52) / 2)
theorem d56 {X : (Nat → Int32) × Nat} {d : Nat} {I : Nat → Nat → Int32} {J : Nat → Nat → Int64} {P : Nat → Nat → Value} {e r k r2 k2 : Nat} {x1 : Int32} {x2 : Int32} {x3 : Int32} {q : Int32} (hw : pm_W P r k r2 k2)  (h : v56 r x1 x2 x3 I = q) : pm_Fn X (d + 2) 56 1 [.ref 3, .int x1, .int x2, .int x3] (I, J, P, pm_T0, e) (.inl (some (.int q))) (I, J, P, pm_T0, e) := by
  obtain ⟨hp, hw1, hw2, hw3, hw4, hw5, hw6, hw7, hw8, hw9, hw10, hw11⟩ := id hw
  have hwa := hw5.1
  have hwb := hw6.1
  have hwc := hw7.1
  have hwd := hw8.1
  unfold v56 at h
  refine fn_v rc56 (c := 3) (nf := 7) (by first | rfl | assumption) ml56 rfl rfl rfl rfl ?_
  refine al0 c56_0 ?_
  refine r_gr g56_1 rfl rfl hw1 ?_
  refine il3 c56_4 ?_
  refine cv2 q56_5 (s99 (by assumption)) rfl ?_
  refine il2 c56_8 ?_
  refine r_imul c56_9 ?_
  refine r_bi c56_10 kB52 ?_
  refine r_idiv c56_12 (by decide) ?_
  refine is4 c56_13 rfl ?_
  refine al0 c56_15 ?_
  refine r_gr g56_16 rfl rfl hw1 ?_
  refine il1 c56_19 ?_
  refine cv2 q56_20 (s83 (by assumption)) rfl ?_
  refine al0 c56_23 ?_
  refine r_gr g56_24 rfl rfl hw1 ?_
  refine il3 c56_27 ?_
  refine cv2 q56_28 (s98 (by assumption)) rfl ?_
  refine r_icne (t := 39) c56_31 rfl (fun h1 => ?_) (fun h1 => ?_)
  · rw [if_neg h1] at h
    refine il4 c56_39 ?_
    refine r_ic c56_41 kI2 ?_
    refine r_idiv c56_42 (by decide) ?_
    cases h
    exact r_ri c56_43 rt56 rfl rfl
  · rw [if_pos h1] at h
    refine il4 c56_34 ?_
    refine r_go (t := 43) c56_36 rfl ?_
    cases h
    exact r_ri c56_43 rt56 rfl rfl
def f57 (r : Nat) (x1 : Int32) (I : Nat → Nat → Int32) (J : Nat → Nat → Int64) : Option (Int32 × (Nat → Nat → Int32) × (Nat → Nat → Int64)) := (f42 r x1 I J).bind (fun (ov1, I2, J3) => some (pm_max 0 ((pm_at (I (r + 7)) 5 x1) - ov1), I2, J3))
theorem d57 {X : (Nat → Int32) × Nat} {d : Nat} {I : Nat → Nat → Int32} {J : Nat → Nat → Int64} {P : Nat → Nat → Value} {e r k r2 k2 : Nat} {x1 : Int32} {q : Int32 × (Nat → Nat → Int32) × (Nat → Nat → Int64)} (hw : pm_W P r k r2 k2)  (h : f57 r x1 I J = some q) : pm_Fn X (d + 4) 57 1 [.ref 3, .int x1] (I, J, P, pm_T0, e) (.inl (some (.int q.1))) (q.2.1, q.2.2, P, pm_T0, e) := by
  obtain ⟨hp, hw1, hw2, hw3, hw4, hw5, hw6, hw7, hw8, hw9, hw10, hw11⟩ := id hw
  have hwa := hw5.1
  have hwb := hw6.1
  have hwc := hw7.1
  have hwd := hw8.1
  unfold f57 at h
  refine fn_v rc57 (c := 3) (nf := 7) (by first | rfl | assumption) ml57 rfl rfl rfl rfl ?_
  refine r_ic c57_0 kI0 ?_
  refine al0 c57_1 ?_
  refine r_gr g57_2 rfl rfl hw1 ?_
  refine il1 c57_5 ?_
  refine cv2 q57_6 (s94 (by assumption)) rfl ?_
  refine al0 c57_9 ?_
  refine il1 c57_10 ?_
  obtain ⟨⟨ov1, I2, J3⟩, e4, h⟩ := pm_bd_sp h
  dsimp only at h
  refine cv2 q57_11 (v := .int ov1) (μ1 := (I2, J3, P, pm_T0, e)) (d42 hw e4) rfl ?_
  refine r_isub c57_14 ?_
  refine cv2 q57_15 s362 rfl ?_
  cases h
  exact r_ri c57_18 rt57 rfl rfl
def f58 (r : Nat) (x1 : Int32) (I : Nat → Nat → Int32) (J : Nat → Nat → Int64) : Option (Int32 × (Nat → Nat → Int32) × (Nat → Nat → Int64)) := (if (v30 x1 0 I) = true then some ((-1), I, J) else (f47 r x1 I J).bind (fun (ov2, I3, J4) => some (ov2 / 4, I3, J4)))
theorem d58 {X : (Nat → Int32) × Nat} {d : Nat} {I : Nat → Nat → Int32} {J : Nat → Nat → Int64} {P : Nat → Nat → Value} {e r k r2 k2 : Nat} {x1 : Int32} {q : Int32 × (Nat → Nat → Int32) × (Nat → Nat → Int64)} (hw : pm_W P r k r2 k2)  (h : f58 r x1 I J = some q) : pm_Fn X (d + 4) 58 1 [.ref 3, .int x1] (I, J, P, pm_T0, e) (.inl (some (.int q.1))) (q.2.1, q.2.2, P, pm_T0, e) := by
  obtain ⟨hp, hw1, hw2, hw3, hw4, hw5, hw6, hw7, hw8, hw9, hw10, hw11⟩ := id hw
  have hwa := hw5.1
  have hwb := hw6.1
  have hwc := hw7.1
  have hwd := hw8.1
  unfold f58 at h
  refine fn_v rc58 (c := 3) (nf := 7) (by first | rfl | assumption) ml58 rfl rfl rfl rfl ?_
  refine al0 c58_0 ?_
  refine il1 c58_1 ?_
  refine r_ic c58_2 kI0 ?_
  refine cv3 q58_3 (d30 hw rfl) rfl ?_
  refine r_ifeq (t := 13) c58_6 rfl (fun h1 => ?_) (fun h1 => ?_)
  · rw [if_neg (pm_bf h1)] at h
    refine al0 c58_13 ?_
    refine il1 c58_14 ?_
    obtain ⟨⟨ov2, I3, J4⟩, e5, h⟩ := pm_bd_sp h
    dsimp only at h
    refine cv2 q58_15 (v := .int ov2) (μ1 := (I3, J4, P, pm_T0, e)) (d47 hw e5) rfl ?_
    refine r_ic c58_18 kI4 ?_
    refine r_idiv c58_19 (by decide) ?_
    cases h
    exact r_ri c58_20 rt58 rfl rfl
  · rw [if_pos (pm_bt h1)] at h
    refine r_ic c58_9 kIm1 ?_
    refine r_go (t := 20) c58_10 rfl ?_
    cases h
    exact r_ri c58_20 rt58 rfl rfl
def f59 (x1 : Int32) (x2 : Int32) (I : Nat → Nat → Int32) (J : Nat → Nat → Int64) : Option (Int32 × (Nat → Nat → Int32) × (Nat → Nat → Int64)) := pm_lt (pm_pw I 12 8 0 x1) (fun I1 => pm_lt (pm_pw I1 12 8 1 x2) (fun I2 => (f18 6 I2 J).bind (fun (ov3, I4, J5) => some (ov3, I4, J5))))
theorem d59 {X : (Nat → Int32) × Nat} {d : Nat} {I : Nat → Nat → Int32} {J : Nat → Nat → Int64} {P : Nat → Nat → Value} {e r k r2 k2 : Nat} {x1 : Int32} {x2 : Int32} {q : Int32 × (Nat → Nat → Int32) × (Nat → Nat → Int64)} (hw : pm_W P r k r2 k2)  (h : f59 x1 x2 I J = some q) : pm_Fn X (d + 3) 59 1 [.ref 3, .int x1, .int x2] (I, J, P, pm_T0, e) (.inl (some (.int q.1))) (q.2.1, q.2.2, P, pm_T0, e) := by
  obtain ⟨hp, hw1, hw2, hw3, hw4, hw5, hw6, hw7, hw8, hw9, hw10, hw11⟩ := id hw
  have hwa := hw5.1
  have hwb := hw6.1
  have hwc := hw7.1
  have hwd := hw8.1
  unfold f59 at h
  refine fn_v rc59 (c := 3) (nf := 7) (by first | rfl | assumption) ml59 rfl rfl rfl rfl ?_
  refine al0 c59_0 ?_
  refine r_gr g59_1 rfl rfl (hp _ _ _ rfl) ?_
  refine r_ic c59_4 kI0 ?_
  refine il1 c59_5 ?_
  refine cz3 q59_6 (t159 (by first | rfl | assumption) (by first | decide | assumption)) rfl ?_
  rw [pm_lt_eq] at h
  generalize pm_pw I 12 8 0 x1 = I1 at h ⊢
  refine al0 c59_9 ?_
  refine r_gr g59_10 rfl rfl (hp _ _ _ rfl) ?_
  refine r_ic c59_13 kI1 ?_
  refine il2 c59_14 ?_
  refine cz3 q59_15 (t159 (by first | rfl | assumption) (by first | decide | assumption)) rfl ?_
  rw [pm_lt_eq] at h
  generalize pm_pw I1 12 8 1 x2 = I2 at h ⊢
  refine al0 c59_18 ?_
  refine r_gr g59_19 rfl rfl (hp _ _ _ rfl) ?_
  refine al0 c59_22 ?_
  refine r_gr g59_23 rfl rfl (hp _ _ _ rfl) ?_
  obtain ⟨⟨ov3, I4, J5⟩, e6, h⟩ := pm_bd_sp h
  dsimp only at h
  refine cv2 q59_26 (v := .int ov3) (μ1 := (I4, J5, P, pm_T0, e)) (d18 hw (by first | rfl | assumption | decide) e6) rfl ?_
  cases h
  exact r_ri c59_29 rt59 rfl rfl
def f61_4 (r : Nat)  : Nat → Int32 → Int32 → (Nat → Nat → Int32) → (Nat → Nat → Int64) → Option (Int32 × (Nat → Nat → Int32) × (Nat → Nat → Int64))
  | 0, _, _, _, _ => none
  | fu + 1, y1, y2, I, J => (if y2.toInt < (I r 8).toInt then (if 0 < (pm_at (I 13) 5 y2).toInt then (if y1 = (-1) then f61_4 r fu y2 (y2 + 1) I J else (if ((pm_at (I 13) 5 y1) * (1 + (pm_at (I 14) 5 y2))).toInt < ((pm_at (I 13) 5 y2) * (1 + (pm_at (I 14) 5 y1))).toInt then f61_4 r fu y2 (y2 + 1) I J else f61_4 r fu y1 (y2 + 1) I J)) else f61_4 r fu y1 (y2 + 1) I J) else some (y1, I, J))
def f61 (r : Nat)  (I : Nat → Nat → Int32) (J : Nat → Nat → Int64) : Option (Int32 × (Nat → Nat → Int32) × (Nat → Nat → Int64)) := f61_4 r pm_FU (-1) 0 I J
theorem d61_4 {X : (Nat → Int32) × Nat} {d : Nat} {P : Nat → Nat → Value} {e r k r2 k2 : Nat}  (hw : pm_W P r k r2 k2)  : ∀ (fu : Nat) {y1 y2 : Int32} {I : Nat → Nat → Int32} {J : Nat → Nat → Int64} {q : Int32 × (Nat → Nat → Int32) × (Nat → Nat → Int64)} (h : f61_4 r fu y1 y2 I J = some q), pm_Fx X (d + 2) 61 4 [.ref 3, .int y1, .int y2] [] (I, J, P, pm_T0, e) (.inl (some (.int q.1))) (q.2.1, q.2.2, P, pm_T0, e) := by
  obtain ⟨hp, hw1, hw2, hw3, hw4, hw5, hw6, hw7, hw8, hw9, hw10, hw11⟩ := id hw
  have hwa := hw5.1
  have hwb := hw6.1
  have hwc := hw7.1
  have hwd := hw8.1
  intro fu
  induction fu with
  | zero => intro y1 y2 I J q h; cases h
  | succ fu ih =>
    intro y1 y2 I J q h
    rw [f61_4] at h
    refine il2 c61_4 ?_
    refine al0 c61_5 ?_
    refine r_gr g61_6 rfl rfl hw1 ?_
    refine cv1 q61_9 (s92 (by first | rfl | assumption)) rfl ?_
    refine r_icge (t := 80) c61_12 rfl (fun h1 => ?_) (fun h1 => ?_)
    · rw [if_neg (Int.not_lt.mpr h1)] at h
      refine il1 c61_80 ?_
      cases h
      exact r_ri c61_81 rt61 rfl rfl
    · rw [if_pos h1] at h
      refine al0 c61_15 ?_
      refine r_gr g61_16 rfl rfl (hp _ _ _ rfl) ?_
      refine il2 c61_19 ?_
      refine cv2 q61_20 (s160 (by first | rfl | assumption) (by first | decide | assumption)) rfl ?_
      refine r_ifle (t := 74) c61_23 rfl (fun h2 => ?_) (fun h2 => ?_)
      · rw [if_neg (Int.not_lt.mpr h2)] at h
        refine ii2 c61_74 kI1 rfl ?_
        refine r_go (t := 4) c61_77 rfl ?_
        exact ih h
      · rw [if_pos h2] at h
        refine il1 c61_26 ?_
        refine r_ic c61_27 kIm1 ?_
        refine r_iceq (t := 72) c61_28 rfl (fun h3 => ?_) (fun h3 => ?_)
        · rw [if_pos h3] at h
          refine il2 c61_72 ?_
          refine is1 c61_73 rfl ?_
          refine ii2 c61_74 kI1 rfl ?_
          refine r_go (t := 4) c61_77 rfl ?_
          exact ih h
        · rw [if_neg h3] at h
          refine al0 c61_31 ?_
          refine r_gr g61_32 rfl rfl (hp _ _ _ rfl) ?_
          refine il2 c61_35 ?_
          refine cv2 q61_36 (s160 (by first | rfl | assumption) (by first | decide | assumption)) rfl ?_
          refine r_ic c61_39 kI1 ?_
          refine al0 c61_40 ?_
          refine r_gr g61_41 rfl rfl (hp _ _ _ rfl) ?_
          refine il1 c61_44 ?_
          refine cv2 q61_45 (s160 (by first | rfl | assumption) (by first | decide | assumption)) rfl ?_
          refine r_iadd c61_48 ?_
          refine r_imul c61_49 ?_
          refine al0 c61_50 ?_
          refine r_gr g61_51 rfl rfl (hp _ _ _ rfl) ?_
          refine il1 c61_54 ?_
          refine cv2 q61_55 (s160 (by first | rfl | assumption) (by first | decide | assumption)) rfl ?_
          refine r_ic c61_58 kI1 ?_
          refine al0 c61_59 ?_
          refine r_gr g61_60 rfl rfl (hp _ _ _ rfl) ?_
          refine il2 c61_63 ?_
          refine cv2 q61_64 (s160 (by first | rfl | assumption) (by first | decide | assumption)) rfl ?_
          refine r_iadd c61_67 ?_
          refine r_imul c61_68 ?_
          refine r_icle (t := 74) c61_69 rfl (fun h4 => ?_) (fun h4 => ?_)
          · rw [if_neg (Int.not_lt.mpr h4)] at h
            refine ii2 c61_74 kI1 rfl ?_
            refine r_go (t := 4) c61_77 rfl ?_
            exact ih h
          · rw [if_pos h4] at h
            refine il2 c61_72 ?_
            refine is1 c61_73 rfl ?_
            refine ii2 c61_74 kI1 rfl ?_
            refine r_go (t := 4) c61_77 rfl ?_
            exact ih h
theorem d61 {X : (Nat → Int32) × Nat} {d : Nat} {I : Nat → Nat → Int32} {J : Nat → Nat → Int64} {P : Nat → Nat → Value} {e r k r2 k2 : Nat}  {q : Int32 × (Nat → Nat → Int32) × (Nat → Nat → Int64)} (hw : pm_W P r k r2 k2)  (h : f61 r I J = some q) : pm_Fn X (d + 2) 61 1 [.ref 3] (I, J, P, pm_T0, e) (.inl (some (.int q.1))) (q.2.1, q.2.2, P, pm_T0, e) := by
  obtain ⟨hp, hw1, hw2, hw3, hw4, hw5, hw6, hw7, hw8, hw9, hw10, hw11⟩ := id hw
  have hwa := hw5.1
  have hwb := hw6.1
  have hwc := hw7.1
  have hwd := hw8.1
  unfold f61 at h
  refine fn_v rc61 (c := 3) (nf := 7) (by first | rfl | assumption) ml61 rfl rfl rfl rfl ?_
  refine r_ic c61_0 kIm1 ?_
  refine is1 c61_1 rfl ?_
  refine r_ic c61_2 kI0 ?_
  refine is2 c61_3 rfl ?_
  exact d61_4 hw pm_FU h
def f60_L (r : Nat)  : Nat → Nat → Int32 → Int32 → Int32 → (Nat → Nat → Int32) → (Nat → Nat → Int64) → Option (Int32 × (Nat → Nat → Int32) × (Nat → Nat → Int64))
  | 0, _, _, _, _, _, _ => none
  | fu + 1, 0, y1, y2, y3, I, J => (if y3.toInt < (5 : Int32).toInt then (f42 r y3 I J).bind (fun (ov2, I3, J4) => pm_lt (pm_pw I3 13 5 y3 ov2) (fun I6 => pm_lt (pm_pw I6 14 5 y3 0) (fun I7 => f60_L r fu 0 y1 y2 (y3 + 1) I7 J4))) else f60_L r fu 1 y1 y2 0 I J)
  | fu + 1, _ + 1, y1, y2, y3, I, J => (if y3.toInt < y2.toInt then (f61 r I J).bind (fun (ov9, I10, J11) => pm_lt (pm_pw I10 14 5 ov9 ((pm_at (I10 14) 5 ov9) + 1)) (fun I13 => f60_L r fu 1 y1 y2 (y3 + 1) I13 J11)) else some (pm_at (I 14) 5 y1, I, J))
def f60 (r : Nat) (x1 : Int32) (x2 : Int32) (I : Nat → Nat → Int32) (J : Nat → Nat → Int64) : Option (Int32 × (Nat → Nat → Int32) × (Nat → Nat → Int64)) := f60_L r pm_FU 0 x1 x2 0 I J
theorem d60_L {X : (Nat → Int32) × Nat} {d : Nat} {P : Nat → Nat → Value} {e r k r2 k2 : Nat}  (hw : pm_W P r k r2 k2)  : ∀ fu : Nat, (∀ {y1 y2 y3 : Int32} {I : Nat → Nat → Int32} {J : Nat → Nat → Int64} {q : Int32 × (Nat → Nat → Int32) × (Nat → Nat → Int64)} {z4 : Value} (h : f60_L r fu 0 y1 y2 y3 I J = some q), pm_Fx X (d + 4) 60 2 [.ref 3, .int y1, .int y2, .int y3, z4] [] (I, J, P, pm_T0, e) (.inl (some (.int q.1))) (q.2.1, q.2.2, P, pm_T0, e)) ∧ (∀ {y1 y2 y3 : Int32} {I : Nat → Nat → Int32} {J : Nat → Nat → Int64} {q : Int32 × (Nat → Nat → Int32) × (Nat → Nat → Int64)} {z4 : Value} (h : f60_L r fu 1 y1 y2 y3 I J = some q), pm_Fx X (d + 4) 60 37 [.ref 3, .int y1, .int y2, .int y3, z4] [] (I, J, P, pm_T0, e) (.inl (some (.int q.1))) (q.2.1, q.2.2, P, pm_T0, e)) := by
  obtain ⟨hp, hw1, hw2, hw3, hw4, hw5, hw6, hw7, hw8, hw9, hw10, hw11⟩ := id hw
  have hwa := hw5.1
  have hwb := hw6.1
  have hwc := hw7.1
  have hwd := hw8.1
  intro fu
  induction fu with
  | zero => exact ⟨(by intro y1 y2 y3 I J q z4 h; cases h), (by intro y1 y2 y3 I J q z4 h; cases h)⟩
  | succ fu ih =>
    refine ⟨?_, ?_⟩
    · intro y1 y2 y3 I J q z4 h
      rw [f60_L] at h
      refine il3 c60_2 ?_
      refine r_ic c60_3 kI5 ?_
      refine r_icge (t := 35) c60_4 rfl (fun h1 => ?_) (fun h1 => ?_)
      · rw [if_neg (Int.not_lt.mpr h1)] at h
        refine r_ic c60_35 kI0 ?_
        refine is3 c60_36 rfl ?_
        exact ih.2 h
      · rw [if_pos h1] at h
        refine al0 c60_7 ?_
        refine r_gr g60_8 rfl rfl (hp _ _ _ rfl) ?_
        refine il3 c60_11 ?_
        refine al0 c60_12 ?_
        refine il3 c60_13 ?_
        obtain ⟨⟨ov2, I3, J4⟩, e5, h⟩ := pm_bd_sp h
        dsimp only at h
        refine cv2 q60_14 (v := .int ov2) (μ1 := (I3, J4, P, pm_T0, e)) (d42 hw e5) rfl ?_
        refine cz3 q60_17 (t159 (by first | rfl | assumption) (by first | decide | assumption)) rfl ?_
        rw [pm_lt_eq] at h
        generalize pm_pw I3 13 5 y3 ov2 = I6 at h ⊢
        refine al0 c60_20 ?_
        refine r_gr g60_21 rfl rfl (hp _ _ _ rfl) ?_
        refine il3 c60_24 ?_
        refine r_ic c60_25 kI0 ?_
        refine cz3 q60_26 (t159 (by first | rfl | assumption) (by first | decide | assumption)) rfl ?_
        rw [pm_lt_eq] at h
        generalize pm_pw I6 14 5 y3 0 = I7 at h ⊢
        refine ii3 c60_29 kI1 rfl ?_
        refine r_go (t := 2) c60_32 rfl ?_
        exact ih.1 h
    · intro y1 y2 y3 I J q z4 h
      rw [f60_L] at h
      refine il3 c60_37 ?_
      refine il2 c60_38 ?_
      refine r_icge (t := 74) c60_39 rfl (fun h8 => ?_) (fun h8 => ?_)
      · rw [if_neg (Int.not_lt.mpr h8)] at h
        refine al0 c60_74 ?_
        refine r_gr g60_75 rfl rfl (hp _ _ _ rfl) ?_
        refine il1 c60_78 ?_
        refine cv2 q60_79 (s160 (by first | rfl | assumption) (by first | decide | assumption)) rfl ?_
        cases h
        exact r_ri c60_82 rt60 rfl rfl
      · rw [if_pos h8] at h
        refine al0 c60_42 ?_
        obtain ⟨⟨ov9, I10, J11⟩, e12, h⟩ := pm_bd_sp h
        dsimp only at h
        refine cv1 q60_43 (v := .int ov9) (μ1 := (I10, J11, P, pm_T0, e)) (d61 hw e12) rfl ?_
        refine is4 c60_46 rfl ?_
        refine al0 c60_48 ?_
        refine r_gr g60_49 rfl rfl (hp _ _ _ rfl) ?_
        refine il4 c60_52 ?_
        refine al0 c60_54 ?_
        refine r_gr g60_55 rfl rfl (hp _ _ _ rfl) ?_
        refine il4 c60_58 ?_
        refine cv2 q60_60 (s160 (by first | rfl | assumption) (by first | decide | assumption)) rfl ?_
        refine r_ic c60_63 kI1 ?_
        refine r_iadd c60_64 ?_
        refine cz3 q60_65 (t159 (by first | rfl | assumption) (by first | decide | assumption)) rfl ?_
        rw [pm_lt_eq] at h
        generalize pm_pw I10 14 5 ov9 ((pm_at (I10 14) 5 ov9) + 1) = I13 at h ⊢
        refine ii3 c60_68 kI1 rfl ?_
        refine r_go (t := 37) c60_71 rfl ?_
        exact ih.2 h
theorem d60 {X : (Nat → Int32) × Nat} {d : Nat} {I : Nat → Nat → Int32} {J : Nat → Nat → Int64} {P : Nat → Nat → Value} {e r k r2 k2 : Nat} {x1 : Int32} {x2 : Int32} {q : Int32 × (Nat → Nat → Int32) × (Nat → Nat → Int64)} (hw : pm_W P r k r2 k2)  (h : f60 r x1 x2 I J = some q) : pm_Fn X (d + 4) 60 1 [.ref 3, .int x1, .int x2] (I, J, P, pm_T0, e) (.inl (some (.int q.1))) (q.2.1, q.2.2, P, pm_T0, e) := by
  obtain ⟨hp, hw1, hw2, hw3, hw4, hw5, hw6, hw7, hw8, hw9, hw10, hw11⟩ := id hw
  have hwa := hw5.1
  have hwb := hw6.1
  have hwc := hw7.1
  have hwd := hw8.1
  unfold f60 at h
  refine fn_v rc60 (c := 3) (nf := 7) (by first | rfl | assumption) ml60 rfl rfl rfl rfl ?_
  refine r_ic c60_0 kI0 ?_
  refine is3 c60_1 rfl ?_
  exact (d60_L hw pm_FU).1 h
def f66_2 (a1 : Nat) : Nat → Int32 → Int32 → (Nat → Nat → Int32) → (Nat → Nat → Int64) → Option (Int32 × (Nat → Nat → Int32) × (Nat → Nat → Int64))
  | 0, _, _, _, _ => none
  | fu + 1, y2, y3, I, J => (if y3.toInt < y2.toInt then (f85 a1 y2 y3 I J).bind (fun (ov2, I3, J4) => (if ov2 = true then (if (pm_at (I3 106) 8 y3) = (-1) then f66_2 a1 fu y2 (y3 + 1) I3 J4 else some (pm_at (I3 106) 8 y3, I3, J4)) else f66_2 a1 fu y2 (y3 + 1) I3 J4)) else some ((-1), I, J))
def f66 (a1 : Nat) (x2 : Int32) (I : Nat → Nat → Int32) (J : Nat → Nat → Int64) : Option (Int32 × (Nat → Nat → Int32) × (Nat → Nat → Int64)) := f66_2 a1 pm_FU x2 0 I J
theorem d66_2 {X : (Nat → Int32) × Nat} {d : Nat} {P : Nat → Nat → Value} {e r k r2 k2 : Nat} {a1 : Nat} (hw : pm_W P r k r2 k2) (hy0 : pm_rgT P a1) : ∀ (fu : Nat) {y2 y3 : Int32} {I : Nat → Nat → Int32} {J : Nat → Nat → Int64} {q : Int32 × (Nat → Nat → Int32) × (Nat → Nat → Int64)} (h : f66_2 a1 fu y2 y3 I J = some q), pm_Fx X (d + 3) 66 2 [.ref 104, .ref a1, .int y2, .int y3] [] (I, J, P, pm_T0, e) (.inl (some (.int q.1))) (q.2.1, q.2.2, P, pm_T0, e) := by
  obtain ⟨hp, hw1, hw2, hw3, hw4, hw5, hw6, hw7, hw8, hw9, hw10, hw11⟩ := id hw
  have hwa := hw5.1
  have hwb := hw6.1
  have hwc := hw7.1
  have hwd := hw8.1
  obtain ⟨t0, ⟨t1, t2, t3, t4, t5, t6, t7⟩, u0, u1, u2, u3, u4, u5, u6⟩ := id hy0
  intro fu
  induction fu with
  | zero => intro y2 y3 I J q h; cases h
  | succ fu ih =>
    intro y2 y3 I J q h
    rw [f66_2] at h
    refine il3 c66_2 ?_
    refine il2 c66_3 ?_
    refine r_icge (t := 43) c66_4 rfl (fun h1 => ?_) (fun h1 => ?_)
    · rw [if_neg (Int.not_lt.mpr h1)] at h
      refine r_ic c66_43 kIm1 ?_
      cases h
      exact r_ri c66_44 rt66 rfl rfl
    · rw [if_pos h1] at h
      refine al1 c66_7 ?_
      refine il2 c66_8 ?_
      refine il3 c66_9 ?_
      obtain ⟨⟨ov2, I3, J4⟩, e5, h⟩ := pm_bd_sp h
      dsimp only at h
      refine cv3 q66_10 (v := .int (pm_bi ov2)) (μ1 := (I3, J4, P, pm_T0, e)) (d85 hw (by first | rfl | assumption | decide) e5) rfl ?_
      refine r_ifeq (t := 37) c66_13 rfl (fun h6 => ?_) (fun h6 => ?_)
      · rw [if_neg (pm_bf h6)] at h
        refine ii3 c66_37 kI1 rfl ?_
        refine r_go (t := 2) c66_40 rfl ?_
        exact ih h
      · rw [if_pos (pm_bt h6)] at h
        refine al0 c66_16 ?_
        refine r_gr g66_17 rfl rfl (hp _ _ _ rfl) ?_
        refine il3 c66_20 ?_
        refine cv2 q66_21 (s160 (by first | rfl | assumption) (by first | decide | assumption)) rfl ?_
        refine r_ic c66_24 kIm1 ?_
        refine r_iceq (t := 37) c66_25 rfl (fun h7 => ?_) (fun h7 => ?_)
        · rw [if_pos h7] at h
          refine ii3 c66_37 kI1 rfl ?_
          refine r_go (t := 2) c66_40 rfl ?_
          exact ih h
        · rw [if_neg h7] at h
          refine al0 c66_28 ?_
          refine r_gr g66_29 rfl rfl (hp _ _ _ rfl) ?_
          refine il3 c66_32 ?_
          refine cv2 q66_33 (s160 (by first | rfl | assumption) (by first | decide | assumption)) rfl ?_
          cases h
          exact r_ri c66_36 rt66 rfl rfl
theorem d66 {X : (Nat → Int32) × Nat} {d : Nat} {I : Nat → Nat → Int32} {J : Nat → Nat → Int64} {P : Nat → Nat → Value} {e r k r2 k2 : Nat} {a1 : Nat} {x2 : Int32} {q : Int32 × (Nat → Nat → Int32) × (Nat → Nat → Int64)} (hw : pm_W P r k r2 k2) (hy0 : pm_rgT P a1) (h : f66 a1 x2 I J = some q) : pm_Fn X (d + 3) 66 1 [.ref 104, .ref a1, .int x2] (I, J, P, pm_T0, e) (.inl (some (.int q.1))) (q.2.1, q.2.2, P, pm_T0, e) := by
  obtain ⟨hp, hw1, hw2, hw3, hw4, hw5, hw6, hw7, hw8, hw9, hw10, hw11⟩ := id hw
  have hwa := hw5.1
  have hwb := hw6.1
  have hwc := hw7.1
  have hwd := hw8.1
  obtain ⟨t0, ⟨t1, t2, t3, t4, t5, t6, t7⟩, u0, u1, u2, u3, u4, u5, u6⟩ := id hy0
  unfold f66 at h
  refine fn_v rc66 (c := 4) (nf := 13) (by first | rfl | assumption) ml66 rfl rfl rfl rfl ?_
  refine r_ic c66_0 kI0 ?_
  refine is3 c66_1 rfl ?_
  exact d66_2 hw hy0 pm_FU h
def f65_L (r : Nat)  : Nat → Nat → Int32 → Int32 → Int32 → Int32 → (Nat → Nat → Int32) → (Nat → Nat → Int64) → Option (Unit × (Nat → Nat → Int32) × (Nat → Nat → Int64))
  | 0, _, _, _, _, _, _, _ => none
  | fu + 1, 0, y2, y3, y4, _, I, J => (if y4.toInt < (5 : Int32).toInt then pm_lt (pm_pw I 108 40 ((y3 * 5) + y4) 0) (fun I8 => f65_L r fu 0 y2 y3 (y4 + 1) 0 I8 J) else pm_lt (pm_pw I 106 8 y2 y3) (fun I2 => pm_lt (pm_pw I2 107 8 y3 ((pm_at (I2 107) 8 y3) + 1)) (fun I3 => (f47 r y2 I3 J).bind (fun (ov4, I5, J6) => f65_L r fu 1 y2 y3 ov4 0 I5 J6))))
  | fu + 1, _ + 1, y2, y3, y4, y5, I, J => (if y5.toInt < (I 104 8).toInt then pm_lt (pm_pw I 108 40 ((y3 * 5) + y5) ((pm_at (I 108) 40 ((y3 * 5) + y5)) + (v56 r y2 y4 y5 I))) (fun I10 => f65_L r fu 1 y2 y3 y4 (y5 + 1) I10 J) else some ((), I, J))
def f65 (r : Nat) (x2 : Int32) (I : Nat → Nat → Int32) (J : Nat → Nat → Int64) : Option (Unit × (Nat → Nat → Int32) × (Nat → Nat → Int64)) := (f66 r x2 I J).bind (fun (ov1, I2, J3) => (if ov1 = (-1) then pm_lt (pm_w I2 104 7 ((I2 104 7) + 1)) (fun I12 => pm_lt (pm_pw I12 107 8 (I2 104 7) 0) (fun I13 => f65_L r pm_FU 0 x2 (I2 104 7) 0 0 I13 J3)) else pm_lt (pm_pw I2 106 8 x2 ov1) (fun I6 => pm_lt (pm_pw I6 107 8 ov1 ((pm_at (I6 107) 8 ov1) + 1)) (fun I7 => (f47 r x2 I7 J3).bind (fun (ov8, I9, J10) => f65_L r pm_FU 1 x2 ov1 ov8 0 I9 J10)))))
theorem d65_L {X : (Nat → Int32) × Nat} {d : Nat} {P : Nat → Nat → Value} {e r k r2 k2 : Nat}  (hw : pm_W P r k r2 k2)  : ∀ fu : Nat, (∀ {y2 y3 y4 : Int32} {I : Nat → Nat → Int32} {J : Nat → Nat → Int64} {q : Unit × (Nat → Nat → Int32) × (Nat → Nat → Int64)} {z5 : Value} {z6 : Value} (h : f65_L r fu 0 y2 y3 y4 0 I J = some q), pm_Fx X (d + 4) 65 42 [.ref 104, .ref 3, .int y2, .int y3, .int y4, z5, z6] [] (I, J, P, pm_T0, e) (.inl none) (q.2.1, q.2.2, P, pm_T0, e)) ∧ (∀ {y2 y3 y4 y5 : Int32} {I : Nat → Nat → Int32} {J : Nat → Nat → Int64} {q : Unit × (Nat → Nat → Int32) × (Nat → Nat → Int64)} {z6 : Value} (h : f65_L r fu 1 y2 y3 y4 y5 I J = some q), pm_Fx X (d + 4) 65 105 [.ref 104, .ref 3, .int y2, .int y3, .int y4, .int y5, z6] [] (I, J, P, pm_T0, e) (.inl none) (q.2.1, q.2.2, P, pm_T0, e)) := by
  obtain ⟨hp, hw1, hw2, hw3, hw4, hw5, hw6, hw7, hw8, hw9, hw10, hw11⟩ := id hw
  have hwa := hw5.1
  have hwb := hw6.1
  have hwc := hw7.1
  have hwd := hw8.1
  intro fu
  induction fu with
  | zero => exact ⟨(by intro y2 y3 y4 I J q z5 z6 h; cases h), (by intro y2 y3 y4 y5 I J q z6 h; cases h)⟩
  | succ fu ih =>
    refine ⟨?_, ?_⟩
    · intro y2 y3 y4 I J q z5 z6 h
      rw [f65_L] at h
      refine il4 c65_42 ?_
      refine r_ic c65_44 kI5 ?_
      refine r_icge (t := 68) c65_45 rfl (fun h1 => ?_) (fun h1 => ?_)
      · rw [if_neg (Int.not_lt.mpr h1)] at h
        refine al0 c65_68 ?_
        refine r_gr g65_69 rfl rfl (hp _ _ _ rfl) ?_
        refine il2 c65_72 ?_
        refine il3 c65_73 ?_
        refine cz3 q65_74 (t159 (by first | rfl | assumption) (by first | decide | assumption)) rfl ?_
        rw [pm_lt_eq] at h
        generalize pm_pw I 106 8 y2 y3 = I2 at h ⊢
        refine al0 c65_77 ?_
        refine r_gr g65_78 rfl rfl (hp _ _ _ rfl) ?_
        refine il3 c65_81 ?_
        refine al0 c65_82 ?_
        refine r_gr g65_83 rfl rfl (hp _ _ _ rfl) ?_
        refine il3 c65_86 ?_
        refine cv2 q65_87 (s160 (by first | rfl | assumption) (by first | decide | assumption)) rfl ?_
        refine r_ic c65_90 kI1 ?_
        refine r_iadd c65_91 ?_
        refine cz3 q65_92 (t159 (by first | rfl | assumption) (by first | decide | assumption)) rfl ?_
        rw [pm_lt_eq] at h
        generalize pm_pw I2 107 8 y3 ((pm_at (I2 107) 8 y3) + 1) = I3 at h ⊢
        refine al1 c65_95 ?_
        refine il2 c65_96 ?_
        obtain ⟨⟨ov4, I5, J6⟩, e7, h⟩ := pm_bd_sp h
        dsimp only at h
        refine cv2 q65_97 (v := .int ov4) (μ1 := (I5, J6, P, pm_T0, e)) (d47 hw e7) rfl ?_
        refine is4 c65_100 rfl ?_
        refine r_ic c65_102 kI0 ?_
        refine is5 c65_103 rfl ?_
        exact ih.2 h
      · rw [if_pos h1] at h
        refine al0 c65_48 ?_
        refine r_gr g65_49 rfl rfl (hp _ _ _ rfl) ?_
        refine il3 c65_52 ?_
        refine r_ic c65_53 kI5 ?_
        refine r_imul c65_54 ?_
        refine il4 c65_55 ?_
        refine r_iadd c65_57 ?_
        refine r_ic c65_58 kI0 ?_
        refine cz3 q65_59 (t159 (by first | rfl | assumption) (by first | decide | assumption)) rfl ?_
        rw [pm_lt_eq] at h
        generalize pm_pw I 108 40 ((y3 * 5) + y4) 0 = I8 at h ⊢
        refine ii4 c65_62 kI1 rfl ?_
        refine r_go (t := 42) c65_65 rfl ?_
        exact ih.1 h
    · intro y2 y3 y4 y5 I J q z6 h
      rw [f65_L] at h
      refine il5 c65_105 ?_
      refine al0 c65_107 ?_
      refine r_gi g65_108 (by first | rfl | assumption) rfl ?_
      refine r_icge (t := 156) c65_111 rfl (fun h9 => ?_) (fun h9 => ?_)
      · rw [if_neg (Int.not_lt.mpr h9)] at h
        cases h
        exact r_rv c65_156 rt65 rfl
      · rw [if_pos h9] at h
        refine il3 c65_114 ?_
        refine r_ic c65_115 kI5 ?_
        refine r_imul c65_116 ?_
        refine il5 c65_117 ?_
        refine r_iadd c65_119 ?_
        refine is6 c65_120 rfl ?_
        refine al0 c65_122 ?_
        refine r_gr g65_123 rfl rfl (hp _ _ _ rfl) ?_
        refine il6 c65_126 ?_
        refine al0 c65_128 ?_
        refine r_gr g65_129 rfl rfl (hp _ _ _ rfl) ?_
        refine il6 c65_132 ?_
        refine cv2 q65_134 (s160 (by first | rfl | assumption) (by first | decide | assumption)) rfl ?_
        refine al1 c65_137 ?_
        refine il2 c65_138 ?_
        refine il4 c65_139 ?_
        refine il5 c65_141 ?_
        refine cv4 q65_143 (d56 hw rfl) rfl ?_
        refine r_iadd c65_146 ?_
        refine cz3 q65_147 (t159 (by first | rfl | assumption) (by first | decide | assumption)) rfl ?_
        rw [pm_lt_eq] at h
        generalize pm_pw I 108 40 ((y3 * 5) + y5) ((pm_at (I 108) 40 ((y3 * 5) + y5)) + (v56 r y2 y4 y5 I)) = I10 at h ⊢
        refine ii5 c65_150 kI1 rfl ?_
        refine r_go (t := 105) c65_153 rfl ?_
        exact ih.2 h
theorem d65 {X : (Nat → Int32) × Nat} {d : Nat} {I : Nat → Nat → Int32} {J : Nat → Nat → Int64} {P : Nat → Nat → Value} {e r k r2 k2 : Nat} {x2 : Int32} {q : Unit × (Nat → Nat → Int32) × (Nat → Nat → Int64)} (hw : pm_W P r k r2 k2)  (h : f65 r x2 I J = some q) : pm_Fn X (d + 4) 65 1 [.ref 104, .ref 3, .int x2] (I, J, P, pm_T0, e) (.inl none) (q.2.1, q.2.2, P, pm_T0, e) := by
  obtain ⟨hp, hw1, hw2, hw3, hw4, hw5, hw6, hw7, hw8, hw9, hw10, hw11⟩ := id hw
  have hwa := hw5.1
  have hwb := hw6.1
  have hwc := hw7.1
  have hwd := hw8.1
  unfold f65 at h
  refine fn_v rc65 (c := 4) (nf := 13) (by first | rfl | assumption) ml65 rfl rfl rfl rfl ?_
  refine al0 c65_0 ?_
  refine al1 c65_1 ?_
  refine cv1 q65_2 (s37 (by assumption)) rfl ?_
  refine il2 c65_5 ?_
  obtain ⟨⟨ov1, I2, J3⟩, e4, h⟩ := pm_bd_sp h
  dsimp only at h
  refine cv3 q65_6 (v := .int ov1) (μ1 := (I2, J3, P, pm_T0, e)) (d66 hw (by first | rfl | assumption | decide) e4) rfl ?_
  refine is3 c65_9 rfl ?_
  refine il3 c65_10 ?_
  refine r_ic c65_11 kIm1 ?_
  refine r_icne (t := 68) c65_12 rfl (fun h5 => ?_) (fun h5 => ?_)
  · rw [if_neg h5] at h
    refine al0 c65_68 ?_
    refine r_gr g65_69 rfl rfl (hp _ _ _ rfl) ?_
    refine il2 c65_72 ?_
    refine il3 c65_73 ?_
    refine cz3 q65_74 (t159 (by first | rfl | assumption) (by first | decide | assumption)) rfl ?_
    rw [pm_lt_eq] at h
    generalize pm_pw I2 106 8 x2 ov1 = I6 at h ⊢
    refine al0 c65_77 ?_
    refine r_gr g65_78 rfl rfl (hp _ _ _ rfl) ?_
    refine il3 c65_81 ?_
    refine al0 c65_82 ?_
    refine r_gr g65_83 rfl rfl (hp _ _ _ rfl) ?_
    refine il3 c65_86 ?_
    refine cv2 q65_87 (s160 (by first | rfl | assumption) (by first | decide | assumption)) rfl ?_
    refine r_ic c65_90 kI1 ?_
    refine r_iadd c65_91 ?_
    refine cz3 q65_92 (t159 (by first | rfl | assumption) (by first | decide | assumption)) rfl ?_
    rw [pm_lt_eq] at h
    generalize pm_pw I6 107 8 ov1 ((pm_at (I6 107) 8 ov1) + 1) = I7 at h ⊢
    refine al1 c65_95 ?_
    refine il2 c65_96 ?_
    obtain ⟨⟨ov8, I9, J10⟩, e11, h⟩ := pm_bd_sp h
    dsimp only at h
    refine cv2 q65_97 (v := .int ov8) (μ1 := (I9, J10, P, pm_T0, e)) (d47 hw e11) rfl ?_
    refine is4 c65_100 rfl ?_
    refine r_ic c65_102 kI0 ?_
    refine is5 c65_103 rfl ?_
    exact (d65_L hw pm_FU).2 h
  · rw [if_pos h5] at h
    refine al0 c65_15 ?_
    refine r_gi g65_16 (by first | rfl | assumption) rfl ?_
    refine is3 c65_19 rfl ?_
    refine al0 c65_20 ?_
    refine r_dpr c65_21 ?_
    refine r_gi g65_22 (by first | rfl | assumption) rfl ?_
    refine r_ic c65_25 kI1 ?_
    refine r_iadd c65_26 ?_
    refine w_pi p65_27 (by first | rfl | assumption) rfl ?_
    rw [pm_lt_eq] at h
    generalize pm_w I2 104 7 ((I2 104 7) + 1) = I12 at h ⊢
    refine al0 c65_30 ?_
    refine r_gr g65_31 rfl rfl (hp _ _ _ rfl) ?_
    refine il3 c65_34 ?_
    refine r_ic c65_35 kI0 ?_
    refine cz3 q65_36 (t159 (by first | rfl | assumption) (by first | decide | assumption)) rfl ?_
    rw [pm_lt_eq] at h
    generalize pm_pw I12 107 8 (I2 104 7) 0 = I13 at h ⊢
    refine r_ic c65_39 kI0 ?_
    refine is4 c65_40 rfl ?_
    exact (d65_L hw pm_FU).1 h
def f64_18 (r : Nat)  : Nat → Int32 → (Nat → Nat → Int32) → (Nat → Nat → Int64) → Option (Unit × (Nat → Nat → Int32) × (Nat → Nat → Int64))
  | 0, _, _, _ => none
  | fu + 1, y2, I, J => (if y2.toInt < (8 : Int32).toInt then pm_lt (pm_pw I 106 8 y2 (-1)) (fun I2 => (if y2.toInt < (I2 r 7).toInt then (if (v30 y2 1 I2) = true then (f65 r y2 I2 J).bind (fun (ov5, I6, J7) => f64_18 r fu (y2 + 1) I6 J7) else f64_18 r fu (y2 + 1) I2 J) else f64_18 r fu (y2 + 1) I2 J)) else some ((), I, J))
def f64 (r : Nat)  (I : Nat → Nat → Int32) (J : Nat → Nat → Int64) : Option (Unit × (Nat → Nat → Int32) × (Nat → Nat → Int64)) := pm_lt (pm_w I 104 7 0) (fun I1 => pm_lt (pm_w I1 104 8 (I1 r 8)) (fun I2 => f64_18 r pm_FU 0 I2 J))
theorem d64_18 {X : (Nat → Int32) × Nat} {d : Nat} {P : Nat → Nat → Value} {e r k r2 k2 : Nat}  (hw : pm_W P r k r2 k2)  : ∀ (fu : Nat) {y2 : Int32} {I : Nat → Nat → Int32} {J : Nat → Nat → Int64} {q : Unit × (Nat → Nat → Int32) × (Nat → Nat → Int64)} (h : f64_18 r fu y2 I J = some q), pm_Fx X (d + 5) 64 18 [.ref 104, .ref 3, .int y2] [] (I, J, P, pm_T0, e) (.inl none) (q.2.1, q.2.2, P, pm_T0, e) := by
  obtain ⟨hp, hw1, hw2, hw3, hw4, hw5, hw6, hw7, hw8, hw9, hw10, hw11⟩ := id hw
  have hwa := hw5.1
  have hwb := hw6.1
  have hwc := hw7.1
  have hwd := hw8.1
  intro fu
  induction fu with
  | zero => intro y2 I J q h; cases h
  | succ fu ih =>
    intro y2 I J q h
    rw [f64_18] at h
    refine il2 c64_18 ?_
    refine r_bi c64_19 kB8 ?_
    refine r_icge (t := 65) c64_21 rfl (fun h1 => ?_) (fun h1 => ?_)
    · rw [if_neg (Int.not_lt.mpr h1)] at h
      cases h
      exact r_rv c64_65 rt64 rfl
    · rw [if_pos h1] at h
      refine al0 c64_24 ?_
      refine r_gr g64_25 rfl rfl (hp _ _ _ rfl) ?_
      refine il2 c64_28 ?_
      refine r_ic c64_29 kIm1 ?_
      refine cz3 q64_30 (t159 (by first | rfl | assumption) (by first | decide | assumption)) rfl ?_
      rw [pm_lt_eq] at h
      generalize pm_pw I 106 8 y2 (-1) = I2 at h ⊢
      refine il2 c64_33 ?_
      refine al1 c64_34 ?_
      refine cv1 q64_35 (s37 (by assumption)) rfl ?_
      refine cv1 q64_38 (s81 (by first | rfl | assumption)) rfl ?_
      refine r_icge (t := 59) c64_41 rfl (fun h3 => ?_) (fun h3 => ?_)
      · rw [if_neg (Int.not_lt.mpr h3)] at h
        refine ii2 c64_59 kI1 rfl ?_
        refine r_go (t := 18) c64_62 rfl ?_
        exact ih h
      · rw [if_pos h3] at h
        refine al1 c64_44 ?_
        refine il2 c64_45 ?_
        refine r_ic c64_46 kI1 ?_
        refine cv3 q64_47 (d30 hw rfl) rfl ?_
        refine r_ifeq (t := 59) c64_50 rfl (fun h4 => ?_) (fun h4 => ?_)
        · rw [if_neg (pm_bf h4)] at h
          refine ii2 c64_59 kI1 rfl ?_
          refine r_go (t := 18) c64_62 rfl ?_
          exact ih h
        · rw [if_pos (pm_bt h4)] at h
          refine al0 c64_53 ?_
          refine al1 c64_54 ?_
          refine il2 c64_55 ?_
          obtain ⟨⟨ov5, I6, J7⟩, e8, h⟩ := pm_bd_sp h
          dsimp only at h
          refine cz3 q64_56 (μ1 := (I6, J7, P, pm_T0, e)) (d65 hw e8) rfl ?_
          refine ii2 c64_59 kI1 rfl ?_
          refine r_go (t := 18) c64_62 rfl ?_
          exact ih h
theorem d64 {X : (Nat → Int32) × Nat} {d : Nat} {I : Nat → Nat → Int32} {J : Nat → Nat → Int64} {P : Nat → Nat → Value} {e r k r2 k2 : Nat}  {q : Unit × (Nat → Nat → Int32) × (Nat → Nat → Int64)} (hw : pm_W P r k r2 k2)  (h : f64 r I J = some q) : pm_Fn X (d + 5) 64 1 [.ref 104, .ref 3] (I, J, P, pm_T0, e) (.inl none) (q.2.1, q.2.2, P, pm_T0, e) := by
  obtain ⟨hp, hw1, hw2, hw3, hw4, hw5, hw6, hw7, hw8, hw9, hw10, hw11⟩ := id hw
  have hwa := hw5.1
  have hwb := hw6.1
  have hwc := hw7.1
  have hwd := hw8.1
  unfold f64 at h
  refine fn_v rc64 (c := 4) (nf := 13) (by first | rfl | assumption) ml64 rfl rfl rfl rfl ?_
  refine al0 c64_0 ?_
  refine r_ic c64_1 kI0 ?_
  refine w_pi p64_2 (by first | rfl | assumption) rfl ?_
  rw [pm_lt_eq] at h
  generalize pm_w I 104 7 0 = I1 at h ⊢
  refine al0 c64_5 ?_
  refine al1 c64_6 ?_
  refine cv1 q64_7 (s37 (by assumption)) rfl ?_
  refine cv1 q64_10 (s92 (by first | rfl | assumption)) rfl ?_
  refine w_pi p64_13 (by first | rfl | assumption) rfl ?_
  rw [pm_lt_eq] at h
  generalize pm_w I1 104 8 (I1 r 8) = I2 at h ⊢
  refine r_ic c64_16 kI0 ?_
  refine is2 c64_17 rfl ?_
  exact d64_18 hw pm_FU h
