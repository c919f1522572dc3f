/-! THE METHODS AS FUNCTIONS OF THE MEMORY (written by dec.py) -/
def f67_11 (r : Nat)  : Nat → Int32 → Int32 → Int32 → (Nat → Nat → Int32) → (Nat → Nat → Int64) → Option (Int32 × (Nat → Nat → Int32) × (Nat → Nat → Int64))
  | 0, _, _, _, _, _ => none
  | fu + 1, y2, y3, y4, I, J => (if y4.toInt < (I 104 8).toInt then (f57 r y4 I J).bind (fun (ov2, I3, J4) => pm_lt (pm_pw I3 109 5 y4 (pm_min y2 ov2)) (fun I6 => pm_lt (pm_pw I6 111 5 y4 y3) (fun I7 => f67_11 r fu y2 (y3 * ((pm_at (I7 109) 5 y4) + 1)) (y4 + 1) I7 J4))) else some (pm_min 3125 y3, I, J))
def f67 (r : Nat)  (I : Nat → Nat → Int32) (J : Nat → Nat → Int64) : Option (Int32 × (Nat → Nat → Int32) × (Nat → Nat → Int64)) := (f36 r 1 I J).bind (fun (ov1, I2, J3) => f67_11 r pm_FU ov1 1 0 I2 J3)
theorem d67_11 {X : (Nat → Int32) × Nat} {d : Nat} {P : Nat → Nat → Value} {e r k r2 k2 : Nat}  (hw : pm_W P r k r2 k2)  : ∀ (fu : Nat) {y2 y3 y4 : Int32} {I : Nat → Nat → Int32} {J : Nat → Nat → Int64} {q : Int32 × (Nat → Nat → Int32) × (Nat → Nat → Int64)} (h : f67_11 r fu y2 y3 y4 I J = some q), pm_Fx X (d + 5) 67 11 [.ref 104, .ref 3, .int y2, .int y3, .int y4] [] (I, J, P, pm_T0, e) (.inl (some (.int q.1))) (q.2.1, q.2.2, P, pm_T0, e) := by
  obtain ⟨hp, hw1, hw2, hw3, hw4, hw5, hw6, hw7, hw8, hw9, hw10, hw11⟩ := id hw
  have hwa := hw5.1
  have hwb := hw6.1
  have hwc := hw7.1
  have hwd := hw8.1
  intro fu
  induction fu with
  | zero => intro y2 y3 y4 I J q h; cases h
  | succ fu ih =>
    intro y2 y3 y4 I J q h
    rw [f67_11] at h
    refine il4 c67_11 ?_
    refine al0 c67_13 ?_
    refine r_gi g67_14 (by first | rfl | assumption) rfl ?_
    refine r_icge (t := 69) c67_17 rfl (fun h1 => ?_) (fun h1 => ?_)
    · rw [if_neg (Int.not_lt.mpr h1)] at h
      refine r_si c67_69 kS3125 ?_
      refine il3 c67_72 ?_
      refine cv2 q67_73 s363 rfl ?_
      cases h
      exact r_ri c67_76 rt67 rfl rfl
    · rw [if_pos h1] at h
      refine al0 c67_20 ?_
      refine r_gr g67_21 rfl rfl (hp _ _ _ rfl) ?_
      refine il4 c67_24 ?_
      refine il2 c67_26 ?_
      refine al1 c67_27 ?_
      refine il4 c67_28 ?_
      obtain ⟨⟨ov2, I3, J4⟩, e5, h⟩ := pm_bd_sp h
      dsimp only at h
      refine cv2 q67_30 (v := .int ov2) (μ1 := (I3, J4, P, pm_T0, e)) (d57 hw e5) rfl ?_
      refine cv2 q67_33 s363 rfl ?_
      refine cz3 q67_36 (t159 (by first | rfl | assumption) (by first | decide | assumption)) rfl ?_
      rw [pm_lt_eq] at h
      generalize pm_pw I3 109 5 y4 (pm_min y2 ov2) = I6 at h ⊢
      refine al0 c67_39 ?_
      refine r_gr g67_40 rfl rfl (hp _ _ _ rfl) ?_
      refine il4 c67_43 ?_
      refine il3 c67_45 ?_
      refine cz3 q67_46 (t159 (by first | rfl | assumption) (by first | decide | assumption)) rfl ?_
      rw [pm_lt_eq] at h
      generalize pm_pw I6 111 5 y4 y3 = I7 at h ⊢
      refine il3 c67_49 ?_
      refine al0 c67_50 ?_
      refine r_gr g67_51 rfl rfl (hp _ _ _ rfl) ?_
      refine il4 c67_54 ?_
      refine cv2 q67_56 (s160 (by first | rfl | assumption) (by first | decide | assumption)) rfl ?_
      refine r_ic c67_59 kI1 ?_
      refine r_iadd c67_60 ?_
      refine r_imul c67_61 ?_
      refine is3 c67_62 rfl ?_
      refine ii4 c67_63 kI1 rfl ?_
      refine r_go (t := 11) c67_66 rfl ?_
      exact ih h
theorem d67 {X : (Nat → Int32) × Nat} {d : Nat} {I : Nat → Nat → Int32} {J : Nat → Nat → Int64} {P : Nat → Nat → Value} {e r k r2 k2 : Nat}  {q : Int32 × (Nat → Nat → Int32) × (Nat → Nat → Int64)} (hw : pm_W P r k r2 k2)  (h : f67 r I J = some q) : pm_Fn X (d + 5) 67 1 [.ref 104, .ref 3] (I, J, P, pm_T0, e) (.inl (some (.int q.1))) (q.2.1, q.2.2, P, pm_T0, e) := by
  obtain ⟨hp, hw1, hw2, hw3, hw4, hw5, hw6, hw7, hw8, hw9, hw10, hw11⟩ := id hw
  have hwa := hw5.1
  have hwb := hw6.1
  have hwc := hw7.1
  have hwd := hw8.1
  unfold f67 at h
  refine fn_v rc67 (c := 4) (nf := 13) (by first | rfl | assumption) ml67 rfl rfl rfl rfl ?_
  refine al1 c67_0 ?_
  refine r_ic c67_1 kI1 ?_
  obtain ⟨⟨ov1, I2, J3⟩, e4, h⟩ := pm_bd_sp h
  dsimp only at h
  refine cv2 q67_2 (v := .int ov1) (μ1 := (I2, J3, P, pm_T0, e)) (d36 hw e4) rfl ?_
  refine is2 c67_5 rfl ?_
  refine r_ic c67_6 kI1 ?_
  refine is3 c67_7 rfl ?_
  refine r_ic c67_8 kI0 ?_
  refine is4 c67_9 rfl ?_
  exact d67_11 hw pm_FU h
def f70 (x1 : Int32) (I : Nat → Nat → Int32) (J : Nat → Nat → Int64) : Option (Int64 × (Nat → Nat → Int32) × (Nat → Nat → Int64)) := (if x1.toInt < 0 then some (0, I, J) else (if x1.toInt < (nI 3125).toInt then pm_gd (pm_in x1 3125) (some (J 105 (x1).toNatClampNeg, I, J)) else some (0, I, J)))
theorem d70 {X : (Nat → Int32) × Nat} {d : Nat} {I : Nat → Nat → Int32} {J : Nat → Nat → Int64} {P : Nat → Nat → Value} {e r k r2 k2 : Nat} {x1 : Int32} {q : Int64 × (Nat → Nat → Int32) × (Nat → Nat → Int64)} (hw : pm_W P r k r2 k2)  (h : f70 x1 I J = some q) : pm_Fn X (d) 70 1 [.ref 104, .int x1] (I, J, P, pm_T0, e) (.inl (some (.long q.1))) (q.2.1, q.2.2, P, pm_T0, e) := by
  obtain ⟨hp, hw1, hw2, hw3, hw4, hw5, hw6, hw7, hw8, hw9, hw10, hw11⟩ := id hw
  have hwa := hw5.1
  have hwb := hw6.1
  have hwc := hw7.1
  have hwd := hw8.1
  unfold f70 at h
  refine fn_v rc70 (c := 4) (nf := 13) (by first | rfl | assumption) ml70 rfl rfl rfl rfl ?_
  refine il1 c70_0 ?_
  refine r_iflt (t := 22) c70_1 rfl (fun h1 => ?_) (fun h1 => ?_)
  · rw [if_pos h1] at h
    refine r_lc c70_22 kL0 ?_
    cases h
    exact r_rl c70_23 rt70 rfl rfl
  · rw [if_neg (Int.not_lt.mpr h1)] at h
    refine il1 c70_4 ?_
    refine al0 c70_5 ?_
    refine r_gr g70_6 rfl rfl (hp _ _ _ rfl) ?_
    refine r_len c70_9 (by first | rfl | assumption) rfl ?_
    refine r_icge (t := 22) c70_10 rfl (fun h2 => ?_) (fun h2 => ?_)
    · rw [if_neg (Int.not_lt.mpr h2)] at h
      refine r_lc c70_22 kL0 ?_
      cases h
      exact r_rl c70_23 rt70 rfl rfl
    · rw [if_pos h2] at h
      refine al0 c70_13 ?_
      refine r_gr g70_14 rfl rfl (hp _ _ _ rfl) ?_
      refine il1 c70_17 ?_
      obtain ⟨gd3, h⟩ := pm_gd_sp h
      refine w_la c70_18 (by first | rfl | assumption) gd3 ?_
      refine r_go (t := 23) c70_19 rfl ?_
      cases h
      exact r_rl c70_23 rt70 rfl rfl
def v71 (x0 : Int32) (I : Nat → Nat → Int32) : Int32 := 3 * (7 - x0)
theorem d71 {X : (Nat → Int32) × Nat} {d : Nat} {I : Nat → Nat → Int32} {J : Nat → Nat → Int64} {P : Nat → Nat → Value} {e r k r2 k2 : Nat} {x0 : Int32} {q : Int32} (hw : pm_W P r k r2 k2)  (h : v71 x0 I = q) : pm_Fn X (d) 71 0 [.int x0] (I, J, P, pm_T0, e) (.inl (some (.int q))) (I, J, P, pm_T0, e) := by
  obtain ⟨hp, hw1, hw2, hw3, hw4, hw5, hw6, hw7, hw8, hw9, hw10, hw11⟩ := id hw
  have hwa := hw5.1
  have hwb := hw6.1
  have hwc := hw7.1
  have hwd := hw8.1
  unfold v71 at h
  refine fn_s ml71 rfl rfl rfl ?_
  refine r_ic c71_0 kI3 ?_
  refine r_bi c71_1 kB7 ?_
  refine il0 c71_3 ?_
  refine r_isub c71_4 ?_
  refine r_imul c71_5 ?_
  cases h
  exact r_ri c71_6 rt71 rfl rfl
def v364 (x0 : Int64) (x2 : Int64) (I : Nat → Nat → Int32) : Int64 := (if (lg_cmp x0 x2).toInt < 0 then x2 else x0)
theorem d364 {X : (Nat → Int32) × Nat} {d : Nat} {I : Nat → Nat → Int32} {J : Nat → Nat → Int64} {P : Nat → Nat → Value} {e r k r2 k2 : Nat} {x0 : Int64} {x2 : Int64} {q : Int64} (hw : pm_W P r k r2 k2)  (h : v364 x0 x2 I = q) : pm_Fn X (d) 364 0 [.long x0, .long x2] (I, J, P, pm_T0, e) (.inl (some (.long q))) (I, J, P, pm_T0, e) := by
  obtain ⟨hp, hw1, hw2, hw3, hw4, hw5, hw6, hw7, hw8, hw9, hw10, hw11⟩ := id hw
  have hwa := hw5.1
  have hwb := hw6.1
  have hwc := hw7.1
  have hwd := hw8.1
  unfold v364 at h
  refine fn_s ml364 rfl rfl rfl ?_
  refine ll0 c364_0 ?_
  refine ll2 c364_1 ?_
  refine r_lcmp c364_2 ?_
  refine r_iflt (t := 10) c364_3 rfl (fun h1 => ?_) (fun h1 => ?_)
  · rw [if_pos h1] at h
    refine ll2 c364_10 ?_
    cases h
    exact r_rl c364_11 rt364 rfl rfl
  · rw [if_neg (Int.not_lt.mpr h1)] at h
    refine ll0 c364_6 ?_
    refine r_go (t := 11) c364_7 rfl ?_
    cases h
    exact r_rl c364_11 rt364 rfl rfl
def f69_15  : Nat → Int32 → Int32 → Int64 → Int32 → Int32 → (Nat → Nat → Int32) → (Nat → Nat → Int64) → Option (Int64 × (Nat → Nat → Int32) × (Nat → Nat → Int64))
  | 0, _, _, _, _, _, _, _ => none
  | fu + 1, y1, y2, y3, y5, y6, I, J => (if y6.toInt < (I 104 8).toInt then (if (pm_at (I 110) 5 y6).toInt < (pm_at (I 107) 8 y1).toInt then f69_15 fu y1 y2 y3 y5 (y6 + 1) I J else pm_lt (((pm_at (I 108) 40 ((y1 * 5) + y6)).toInt64) <<< ((24 : Int32).toInt64 &&& 63)) (fun u3 => (f70 (y2 - ((pm_at (I 107) 8 y1) * (pm_at (I 111) 5 y6))) I J).bind (fun (ov4, I5, J6) => f69_15 fu y1 y2 (v364 y3 ((ov4 + u3) - (((y6 + 1).toInt64) <<< (y5.toInt64 &&& 63))) I5) y5 (y6 + 1) I5 J6))) else some (y3, I, J))
def f69 (x1 : Int32) (x2 : Int32) (I : Nat → Nat → Int32) (J : Nat → Nat → Int64) : Option (Int64 × (Nat → Nat → Int32) × (Nat → Nat → Int64)) := (f70 x2 I J).bind (fun (ov1, I2, J3) => f69_15 pm_FU x1 x2 ov1 (v71 x1 I2) 0 I2 J3)
theorem d69_15 {X : (Nat → Int32) × Nat} {d : Nat} {P : Nat → Nat → Value} {e r k r2 k2 : Nat}  (hw : pm_W P r k r2 k2)  : ∀ (fu : Nat) {y1 y2 y5 y6 : Int32} {y3 : Int64} {I : Nat → Nat → Int32} {J : Nat → Nat → Int64} {q : Int64 × (Nat → Nat → Int32) × (Nat → Nat → Int64)} {z7 : Value} {z8 : Value} {z9 : Value} {z10 : Value} {z11 : Value} {z12 : Value} (h : f69_15 fu y1 y2 y3 y5 y6 I J = some q), pm_Fx X (d + 1) 69 15 [.ref 104, .int y1, .int y2, .long y3, pm_jk, .int y5, .int y6, z7, z8, z9, z10, z11, z12] [] (I, J, P, pm_T0, e) (.inl (some (.long q.1))) (q.2.1, q.2.2, P, pm_T0, e) := by
  obtain ⟨hp, hw1, hw2, hw3, hw4, hw5, hw6, hw7, hw8, hw9, hw10, hw11⟩ := id hw
  have hwa := hw5.1
  have hwb := hw6.1
  have hwc := hw7.1
  have hwd := hw8.1
  intro fu
  induction fu with
  | zero => intro y1 y2 y5 y6 y3 I J q z7 z8 z9 z10 z11 z12 h; cases h
  | succ fu ih =>
    intro y1 y2 y5 y6 y3 I J q z7 z8 z9 z10 z11 z12 h
    rw [f69_15] at h
    refine il6 c69_15 ?_
    refine al0 c69_17 ?_
    refine r_gi g69_18 (by first | rfl | assumption) rfl ?_
    refine r_icge (t := 118) c69_21 rfl (fun h1 => ?_) (fun h1 => ?_)
    · rw [if_neg (Int.not_lt.mpr h1)] at h
      refine ll3 c69_118 ?_
      cases h
      exact r_rl c69_119 rt69 rfl rfl
    · rw [if_pos h1] at h
      refine al0 c69_24 ?_
      refine r_gr g69_25 rfl rfl (hp _ _ _ rfl) ?_
      refine il6 c69_28 ?_
      refine cv2 q69_30 (s160 (by first | rfl | assumption) (by first | decide | assumption)) rfl ?_
      refine al0 c69_33 ?_
      refine r_gr g69_34 rfl rfl (hp _ _ _ rfl) ?_
      refine il1 c69_37 ?_
      refine cv2 q69_38 (s160 (by first | rfl | assumption) (by first | decide | assumption)) rfl ?_
      refine r_iclt (t := 112) c69_41 rfl (fun h2 => ?_) (fun h2 => ?_)
      · rw [if_pos h2] at h
        refine ii6 c69_112 kI1 rfl ?_
        refine r_go (t := 15) c69_115 rfl ?_
        exact ih h
      · rw [if_neg (Int.not_lt.mpr h2)] at h
        refine al0 c69_44 ?_
        refine r_gr g69_45 rfl rfl (hp _ _ _ rfl) ?_
        refine il1 c69_48 ?_
        refine r_ic c69_49 kI5 ?_
        refine r_imul c69_50 ?_
        refine il6 c69_51 ?_
        refine r_iadd c69_53 ?_
        refine cv2 q69_54 (s160 (by first | rfl | assumption) (by first | decide | assumption)) rfl ?_
        refine r_i2l c69_57 ?_
        refine r_bi c69_58 kB24 ?_
        refine r_lshl c69_60 ?_
        refine ls7 c69_61 rfl ?_
        rw [pm_lt_eq] at h
        generalize ((pm_at (I 108) 40 ((y1 * 5) + y6)).toInt64) <<< ((24 : Int32).toInt64 &&& 63) = u3 at h ⊢
        refine il6 c69_63 ?_
        refine r_ic c69_65 kI1 ?_
        refine r_iadd c69_66 ?_
        refine r_i2l c69_67 ?_
        refine il5 c69_68 ?_
        refine r_lshl c69_70 ?_
        refine ls9 c69_71 rfl ?_
        refine al0 c69_73 ?_
        refine il2 c69_74 ?_
        refine al0 c69_75 ?_
        refine r_gr g69_76 rfl rfl (hp _ _ _ rfl) ?_
        refine il1 c69_79 ?_
        refine cv2 q69_80 (s160 (by first | rfl | assumption) (by first | decide | assumption)) rfl ?_
        refine al0 c69_83 ?_
        refine r_gr g69_84 rfl rfl (hp _ _ _ rfl) ?_
        refine il6 c69_87 ?_
        refine cv2 q69_89 (s160 (by first | rfl | assumption) (by first | decide | assumption)) rfl ?_
        refine r_imul c69_92 ?_
        refine r_isub c69_93 ?_
        obtain ⟨⟨ov4, I5, J6⟩, e7, h⟩ := pm_bd_sp h
        dsimp only at h
        refine cv2 q69_94 (v := .long ov4) (μ1 := (I5, J6, P, pm_T0, e)) (d70 hw e7) rfl ?_
        refine ls11 c69_97 rfl ?_
        refine ll3 c69_99 ?_
        refine ll11 c69_100 ?_
        refine ll7 c69_102 ?_
        refine r_ladd c69_104 ?_
        refine ll9 c69_105 ?_
        refine r_lsub c69_107 ?_
        refine cv2 q69_108 (d364 hw rfl) rfl ?_
        refine ls3 c69_111 rfl ?_
        refine ii6 c69_112 kI1 rfl ?_
        refine r_go (t := 15) c69_115 rfl ?_
        exact ih h
theorem d69 {X : (Nat → Int32) × Nat} {d : Nat} {I : Nat → Nat → Int32} {J : Nat → Nat → Int64} {P : Nat → Nat → Value} {e r k r2 k2 : Nat} {x1 : Int32} {x2 : Int32} {q : Int64 × (Nat → Nat → Int32) × (Nat → Nat → Int64)} (hw : pm_W P r k r2 k2)  (h : f69 x1 x2 I J = some q) : pm_Fn X (d + 1) 69 1 [.ref 104, .int x1, .int x2] (I, J, P, pm_T0, e) (.inl (some (.long q.1))) (q.2.1, q.2.2, P, pm_T0, e) := by
  obtain ⟨hp, hw1, hw2, hw3, hw4, hw5, hw6, hw7, hw8, hw9, hw10, hw11⟩ := id hw
  have hwa := hw5.1
  have hwb := hw6.1
  have hwc := hw7.1
  have hwd := hw8.1
  unfold f69 at h
  refine fn_v rc69 (c := 4) (nf := 13) (by first | rfl | assumption) ml69 rfl rfl rfl rfl ?_
  refine al0 c69_0 ?_
  refine il2 c69_1 ?_
  obtain ⟨⟨ov1, I2, J3⟩, e4, h⟩ := pm_bd_sp h
  dsimp only at h
  refine cv2 q69_2 (v := .long ov1) (μ1 := (I2, J3, P, pm_T0, e)) (d70 hw e4) rfl ?_
  refine ls3 c69_5 rfl ?_
  refine il1 c69_6 ?_
  refine cv1 q69_7 (d71 hw rfl) rfl ?_
  refine is5 c69_10 rfl ?_
  refine r_ic c69_12 kI0 ?_
  refine is6 c69_13 rfl ?_
  exact d69_15 hw pm_FU h
def f72_2  : Nat → Int32 → (Nat → Nat → Int32) → (Nat → Nat → Int64) → Option (Unit × (Nat → Nat → Int32) × (Nat → Nat → Int64))
  | 0, _, _, _ => none
  | fu + 1, y1, I, J => (if y1.toInt < (I 104 8).toInt then (if 0 < (pm_at (I 110) 5 y1).toInt then pm_lt (pm_pw I 110 5 y1 ((pm_at (I 110) 5 y1) - 1)) (fun I5 => pm_lt (pm_w I5 104 9 ((I5 104 9) + 1)) (fun I6 => some ((), I6, J))) else pm_lt (pm_pw I 110 5 y1 (pm_at (I 109) 5 y1)) (fun I3 => pm_lt (pm_w I3 104 9 ((I3 104 9) - (pm_at (I3 109) 5 y1))) (fun I4 => f72_2 fu (y1 + 1) I4 J))) else some ((), I, J))
def f72  (I : Nat → Nat → Int32) (J : Nat → Nat → Int64) : Option (Unit × (Nat → Nat → Int32) × (Nat → Nat → Int64)) := f72_2 pm_FU 0 I J
theorem d72_2 {X : (Nat → Int32) × Nat} {d : Nat} {P : Nat → Nat → Value} {e r k r2 k2 : Nat}  (hw : pm_W P r k r2 k2)  : ∀ (fu : Nat) {y1 : Int32} {I : Nat → Nat → Int32} {J : Nat → Nat → Int64} {q : Unit × (Nat → Nat → Int32) × (Nat → Nat → Int64)} {z2 : Value} (h : f72_2 fu y1 I J = some q), pm_Fx X (d + 1) 72 2 [.ref 104, .int y1, z2] [] (I, J, P, pm_T0, e) (.inl none) (q.2.1, q.2.2, P, pm_T0, e) := by
  obtain ⟨hp, hw1, hw2, hw3, hw4, hw5, hw6, hw7, hw8, hw9, hw10, hw11⟩ := id hw
  have hwa := hw5.1
  have hwb := hw6.1
  have hwc := hw7.1
  have hwd := hw8.1
  intro fu
  induction fu with
  | zero => intro y1 I J q z2 h; cases h
  | succ fu ih =>
    intro y1 I J q z2 h
    rw [f72_2] at h
    refine il1 c72_2 ?_
    refine al0 c72_3 ?_
    refine r_gi g72_4 (by first | rfl | assumption) rfl ?_
    refine r_icge (t := 84) c72_7 rfl (fun h1 => ?_) (fun h1 => ?_)
    · rw [if_neg (Int.not_lt.mpr h1)] at h
      cases h
      exact r_rv c72_84 rt72 rfl
    · rw [if_pos h1] at h
      refine al0 c72_10 ?_
      refine r_gr g72_11 rfl rfl (hp _ _ _ rfl) ?_
      refine il1 c72_14 ?_
      refine cv2 q72_15 (s160 (by first | rfl | assumption) (by first | decide | assumption)) rfl ?_
      refine is2 c72_18 rfl ?_
      refine il2 c72_19 ?_
      refine r_ifle (t := 45) c72_20 rfl (fun h2 => ?_) (fun h2 => ?_)
      · rw [if_neg (Int.not_lt.mpr h2)] at h
        refine al0 c72_45 ?_
        refine r_gr g72_46 rfl rfl (hp _ _ _ rfl) ?_
        refine il1 c72_49 ?_
        refine al0 c72_50 ?_
        refine r_gr g72_51 rfl rfl (hp _ _ _ rfl) ?_
        refine il1 c72_54 ?_
        refine cv2 q72_55 (s160 (by first | rfl | assumption) (by first | decide | assumption)) rfl ?_
        refine cz3 q72_58 (t159 (by first | rfl | assumption) (by first | decide | assumption)) rfl ?_
        rw [pm_lt_eq] at h
        generalize pm_pw I 110 5 y1 (pm_at (I 109) 5 y1) = I3 at h ⊢
        refine al0 c72_61 ?_
        refine r_dpr c72_62 ?_
        refine r_gi g72_63 (by first | rfl | assumption) rfl ?_
        refine al0 c72_66 ?_
        refine r_gr g72_67 rfl rfl (hp _ _ _ rfl) ?_
        refine il1 c72_70 ?_
        refine cv2 q72_71 (s160 (by first | rfl | assumption) (by first | decide | assumption)) rfl ?_
        refine r_isub c72_74 ?_
        refine w_pi p72_75 (by first | rfl | assumption) rfl ?_
        rw [pm_lt_eq] at h
        generalize pm_w I3 104 9 ((I3 104 9) - (pm_at (I3 109) 5 y1)) = I4 at h ⊢
        refine ii1 c72_78 kI1 rfl ?_
        refine r_go (t := 2) c72_81 rfl ?_
        exact ih h
      · rw [if_pos h2] at h
        refine al0 c72_23 ?_
        refine r_gr g72_24 rfl rfl (hp _ _ _ rfl) ?_
        refine il1 c72_27 ?_
        refine il2 c72_28 ?_
        refine r_ic c72_29 kI1 ?_
        refine r_isub c72_30 ?_
        refine cz3 q72_31 (t159 (by first | rfl | assumption) (by first | decide | assumption)) rfl ?_
        rw [pm_lt_eq] at h
        generalize pm_pw I 110 5 y1 ((pm_at (I 110) 5 y1) - 1) = I5 at h ⊢
        refine al0 c72_34 ?_
        refine r_dpr c72_35 ?_
        refine r_gi g72_36 (by first | rfl | assumption) rfl ?_
        refine r_ic c72_39 kI1 ?_
        refine r_iadd c72_40 ?_
        refine w_pi p72_41 (by first | rfl | assumption) rfl ?_
        rw [pm_lt_eq] at h
        generalize pm_w I5 104 9 ((I5 104 9) + 1) = I6 at h ⊢
        cases h
        exact r_rv c72_44 rt72 rfl
theorem d72 {X : (Nat → Int32) × Nat} {d : Nat} {I : Nat → Nat → Int32} {J : Nat → Nat → Int64} {P : Nat → Nat → Value} {e r k r2 k2 : Nat}  {q : Unit × (Nat → Nat → Int32) × (Nat → Nat → Int64)} (hw : pm_W P r k r2 k2)  (h : f72  I J = some q) : pm_Fn X (d + 1) 72 1 [.ref 104] (I, J, P, pm_T0, e) (.inl none) (q.2.1, q.2.2, P, pm_T0, e) := by
  obtain ⟨hp, hw1, hw2, hw3, hw4, hw5, hw6, hw7, hw8, hw9, hw10, hw11⟩ := id hw
  have hwa := hw5.1
  have hwb := hw6.1
  have hwc := hw7.1
  have hwd := hw8.1
  unfold f72 at h
  refine fn_v rc72 (c := 4) (nf := 13) (by first | rfl | assumption) ml72 rfl rfl rfl rfl ?_
  refine r_ic c72_0 kI0 ?_
  refine is1 c72_1 rfl ?_
  exact d72_2 hw pm_FU h
def f68_L  : Nat → Nat → Int32 → Int32 → Int32 → Int32 → (Nat → Nat → Int32) → (Nat → Nat → Int64) → Option (Unit × (Nat → Nat → Int32) × (Nat → Nat → Int64))
  | 0, _, _, _, _, _, _, _ => none
  | fu + 1, 0, y1, y2, y3, y4, I, J => (if y4.toInt < (I 104 8).toInt then pm_lt (pm_pw I 110 5 y4 (pm_at (I 109) 5 y4)) (fun I2 => f68_L fu 0 y1 y2 y3 (y4 + 1) I2 J) else f68_L fu 1 y1 0 y3 y2 I J)
  | fu + 1, _ + 1, y1, _, y3, y4, I, J => (if y4.toInt < 0 then some ((), I, J) else (if y3.toInt < (I 104 9).toInt then (f72  I J).bind (fun (ov5, I6, J7) => f68_L fu 1 y1 0 y3 (y4 + (-1)) I6 J7) else (if y4.toInt < (nI 3125).toInt then (f69 y1 y4 I J).bind (fun (ov14, I15, J16) => pm_gd (pm_in y4 3125) (pm_lt (pm_wl J16 105 (y4).toNatClampNeg ov14) (fun J19 => (f72  I15 J19).bind (fun (ov20, I21, J22) => f68_L fu 1 y1 0 y3 (y4 + (-1)) I21 J22)))) else (f72  I J).bind (fun (ov10, I11, J12) => f68_L fu 1 y1 0 y3 (y4 + (-1)) I11 J12))))
def f68 (x1 : Int32) (x2 : Int32) (x3 : Int32) (I : Nat → Nat → Int32) (J : Nat → Nat → Int64) : Option (Unit × (Nat → Nat → Int32) × (Nat → Nat → Int64)) := pm_lt (pm_w I 104 9 0) (fun I1 => f68_L pm_FU 0 x1 x2 x3 0 I1 J)
theorem d68_L {X : (Nat → Int32) × Nat} {d : Nat} {P : Nat → Nat → Value} {e r k r2 k2 : Nat}  (hw : pm_W P r k r2 k2)  : ∀ fu : Nat, (∀ {y1 y2 y3 y4 : Int32} {I : Nat → Nat → Int32} {J : Nat → Nat → Int64} {q : Unit × (Nat → Nat → Int32) × (Nat → Nat → Int64)} (h : f68_L fu 0 y1 y2 y3 y4 I J = some q), pm_Fx X (d + 2) 68 8 [.ref 104, .int y1, .int y2, .int y3, .int y4] [] (I, J, P, pm_T0, e) (.inl none) (q.2.1, q.2.2, P, pm_T0, e)) ∧ (∀ {y1 y3 y4 : Int32} {I : Nat → Nat → Int32} {J : Nat → Nat → Int64} {q : Unit × (Nat → Nat → Int32) × (Nat → Nat → Int64)} {z2 : Value} (h : f68_L fu 1 y1 0 y3 y4 I J = some q), pm_Fx X (d + 2) 68 44 [.ref 104, .int y1, z2, .int y3, .int y4] [] (I, J, P, pm_T0, e) (.inl none) (q.2.1, q.2.2, P, pm_T0, e)) := by
  obtain ⟨hp, hw1, hw2, hw3, hw4, hw5, hw6, hw7, hw8, hw9, hw10, hw11⟩ := id hw
  have hwa := hw5.1
  have hwb := hw6.1
  have hwc := hw7.1
  have hwd := hw8.1
  intro fu
  induction fu with
  | zero => exact ⟨(by intro y1 y2 y3 y4 I J q h; cases h), (by intro y1 y3 y4 I J q z2 h; cases h)⟩
  | succ fu ih =>
    refine ⟨?_, ?_⟩
    · intro y1 y2 y3 y4 I J q h
      rw [f68_L] at h
      refine il4 c68_8 ?_
      refine al0 c68_10 ?_
      refine r_gi g68_11 (by first | rfl | assumption) rfl ?_
      refine r_icge (t := 41) c68_14 rfl (fun h1 => ?_) (fun h1 => ?_)
      · rw [if_neg (Int.not_lt.mpr h1)] at h
        refine il2 c68_41 ?_
        refine is4 c68_42 rfl ?_
        exact ih.2 h
      · rw [if_pos h1] at h
        refine al0 c68_17 ?_
        refine r_gr g68_18 rfl rfl (hp _ _ _ rfl) ?_
        refine il4 c68_21 ?_
        refine al0 c68_23 ?_
        refine r_gr g68_24 rfl rfl (hp _ _ _ rfl) ?_
        refine il4 c68_27 ?_
        refine cv2 q68_29 (s160 (by first | rfl | assumption) (by first | decide | assumption)) rfl ?_
        refine cz3 q68_32 (t159 (by first | rfl | assumption) (by first | decide | assumption)) rfl ?_
        rw [pm_lt_eq] at h
        generalize pm_pw I 110 5 y4 (pm_at (I 109) 5 y4) = I2 at h ⊢
        refine ii4 c68_35 kI1 rfl ?_
        refine r_go (t := 8) c68_38 rfl ?_
        exact ih.1 h
    · intro y1 y3 y4 I J q z2 h
      rw [f68_L] at h
      refine il4 c68_44 ?_
      refine r_iflt (t := 91) c68_46 rfl (fun h3 => ?_) (fun h3 => ?_)
      · rw [if_pos h3] at h
        cases h
        exact r_rv c68_91 rt68 rfl
      · rw [if_neg (Int.not_lt.mpr h3)] at h
        refine al0 c68_49 ?_
        refine r_gi g68_50 (by first | rfl | assumption) rfl ?_
        refine il3 c68_53 ?_
        refine r_icgt (t := 81) c68_54 rfl (fun h4 => ?_) (fun h4 => ?_)
        · rw [if_pos h4] at h
          refine al0 c68_81 ?_
          obtain ⟨⟨ov5, I6, J7⟩, e8, h⟩ := pm_bd_sp h
          dsimp only at h
          refine cz1 q68_82 (μ1 := (I6, J7, P, pm_T0, e)) (d72 hw e8) rfl ?_
          refine ii4 c68_85 kIm1 rfl ?_
          refine r_go (t := 44) c68_88 rfl ?_
          exact ih.2 h
        · rw [if_neg (Int.not_lt.mpr h4)] at h
          refine il4 c68_57 ?_
          refine al0 c68_59 ?_
          refine r_gr g68_60 rfl rfl (hp _ _ _ rfl) ?_
          refine r_len c68_63 (by first | rfl | assumption) rfl ?_
          refine r_icge (t := 81) c68_64 rfl (fun h9 => ?_) (fun h9 => ?_)
          · rw [if_neg (Int.not_lt.mpr h9)] at h
            refine al0 c68_81 ?_
            obtain ⟨⟨ov10, I11, J12⟩, e13, h⟩ := pm_bd_sp h
            dsimp only at h
            refine cz1 q68_82 (μ1 := (I11, J12, P, pm_T0, e)) (d72 hw e13) rfl ?_
            refine ii4 c68_85 kIm1 rfl ?_
            refine r_go (t := 44) c68_88 rfl ?_
            exact ih.2 h
          · rw [if_pos h9] at h
            refine al0 c68_67 ?_
            refine r_gr g68_68 rfl rfl (hp _ _ _ rfl) ?_
            refine il4 c68_71 ?_
            refine al0 c68_73 ?_
            refine il1 c68_74 ?_
            refine il4 c68_75 ?_
            obtain ⟨⟨ov14, I15, J16⟩, e17, h⟩ := pm_bd_sp h
            dsimp only at h
            refine cv3 q68_77 (v := .long ov14) (μ1 := (I15, J16, P, pm_T0, e)) (d69 hw e17) rfl ?_
            obtain ⟨gd18, h⟩ := pm_gd_sp h
            refine w_lst c68_80 (by first | rfl | assumption) gd18 ?_
            rw [pm_lt_eq] at h
            generalize pm_wl J16 105 (y4).toNatClampNeg ov14 = J19 at h ⊢
            refine al0 c68_81 ?_
            obtain ⟨⟨ov20, I21, J22⟩, e23, h⟩ := pm_bd_sp h
            dsimp only at h
            refine cz1 q68_82 (μ1 := (I21, J22, P, pm_T0, e)) (d72 hw e23) rfl ?_
            refine ii4 c68_85 kIm1 rfl ?_
            refine r_go (t := 44) c68_88 rfl ?_
            exact ih.2 h
theorem d68 {X : (Nat → Int32) × Nat} {d : Nat} {I : Nat → Nat → Int32} {J : Nat → Nat → Int64} {P : Nat → Nat → Value} {e r k r2 k2 : Nat} {x1 : Int32} {x2 : Int32} {x3 : Int32} {q : Unit × (Nat → Nat → Int32) × (Nat → Nat → Int64)} (hw : pm_W P r k r2 k2)  (h : f68 x1 x2 x3 I J = some q) : pm_Fn X (d + 2) 68 1 [.ref 104, .int x1, .int x2, .int x3] (I, J, P, pm_T0, e) (.inl none) (q.2.1, q.2.2, P, pm_T0, e) := by
  obtain ⟨hp, hw1, hw2, hw3, hw4, hw5, hw6, hw7, hw8, hw9, hw10, hw11⟩ := id hw
  have hwa := hw5.1
  have hwb := hw6.1
  have hwc := hw7.1
  have hwd := hw8.1
  unfold f68 at h
  refine fn_v rc68 (c := 4) (nf := 13) (by first | rfl | assumption) ml68 rfl rfl rfl rfl ?_
  refine al0 c68_0 ?_
  refine r_ic c68_1 kI0 ?_
  refine w_pi p68_2 (by first | rfl | assumption) rfl ?_
  rw [pm_lt_eq] at h
  generalize pm_w I 104 9 0 = I1 at h ⊢
  refine r_ic c68_5 kI0 ?_
  refine is4 c68_6 rfl ?_
  exact (d68_L hw pm_FU).1 h
def v74 (x1 : Int32) (I : Nat → Nat → Int32) : Int32 := (if x1.toInt < 0 then (-1) else (((I 104 12) >>> ((v71 x1 I) &&& 31)) &&& 7) - 1)
theorem d74 {X : (Nat → Int32) × Nat} {d : Nat} {I : Nat → Nat → Int32} {J : Nat → Nat → Int64} {P : Nat → Nat → Value} {e r k r2 k2 : Nat} {x1 : Int32} {q : Int32} (hw : pm_W P r k r2 k2)  (h : v74 x1 I = q) : pm_Fn X (d + 1) 74 1 [.ref 104, .int x1] (I, J, P, pm_T0, e) (.inl (some (.int q))) (I, J, P, pm_T0, e) := by
  obtain ⟨hp, hw1, hw2, hw3, hw4, hw5, hw6, hw7, hw8, hw9, hw10, hw11⟩ := id hw
  have hwa := hw5.1
  have hwb := hw6.1
  have hwc := hw7.1
  have hwd := hw8.1
  unfold v74 at h
  refine fn_v rc74 (c := 4) (nf := 13) (by first | rfl | assumption) ml74 rfl rfl rfl rfl ?_
  refine il1 c74_0 ?_
  refine r_ifge (t := 8) c74_1 rfl (fun h1 => ?_) (fun h1 => ?_)
  · rw [if_neg (Int.not_lt.mpr h1)] at h
    refine al0 c74_8 ?_
    refine r_gi g74_9 (by first | rfl | assumption) rfl ?_
    refine il1 c74_12 ?_
    refine cv1 q74_13 (d71 hw rfl) rfl ?_
    refine r_ishr c74_16 ?_
    refine r_bi c74_17 kB7 ?_
    refine r_iand c74_19 ?_
    refine r_ic c74_20 kI1 ?_
    refine r_isub c74_21 ?_
    cases h
    exact r_ri c74_22 rt74 rfl rfl
  · rw [if_pos h1] at h
    refine r_ic c74_4 kIm1 ?_
    refine r_go (t := 22) c74_5 rfl ?_
    cases h
    exact r_ri c74_22 rt74 rfl rfl
def f73_33  : Nat → Int32 → (Nat → Nat → Int32) → (Nat → Nat → Int64) → Option (Unit × (Nat → Nat → Int32) × (Nat → Nat → Int64))
  | 0, _, _, _ => none
  | fu + 1, y3, I, J => (if y3.toInt < (I 104 7).toInt then (if (v74 y3 I) = (-1) then f73_33 fu (y3 + 1) I J else pm_lt (pm_w I 104 11 ((I 104 11) + (pm_at (I 107) 8 y3))) (fun I3 => f73_33 fu (y3 + 1) I3 J)) else some ((), I, J))
def f73 (x1 : Int64) (I : Nat → Nat → Int32) (J : Nat → Nat → Int64) : Option (Unit × (Nat → Nat → Int32) × (Nat → Nat → Int64)) := pm_lt (pm_w I 104 12 (((-x1) &&& 16777215).toInt32)) (fun I1 => pm_lt (pm_w I1 104 10 (((x1 + ((I1 104 12).toInt64)) >>> ((24 : Int32).toInt64 &&& 63)).toInt32)) (fun I2 => pm_lt (pm_w I2 104 11 0) (fun I3 => f73_33 pm_FU 0 I3 J)))
theorem d73_33 {X : (Nat → Int32) × Nat} {d : Nat} {P : Nat → Nat → Value} {e r k r2 k2 : Nat}  (hw : pm_W P r k r2 k2)  : ∀ (fu : Nat) {y3 : Int32} {I : Nat → Nat → Int32} {J : Nat → Nat → Int64} {q : Unit × (Nat → Nat → Int32) × (Nat → Nat → Int64)} {z1 : Value} {z2 : Value} (h : f73_33 fu y3 I J = some q), pm_Fx X (d + 2) 73 33 [.ref 104, z1, z2, .int y3] [] (I, J, P, pm_T0, e) (.inl none) (q.2.1, q.2.2, P, pm_T0, e) := by
  obtain ⟨hp, hw1, hw2, hw3, hw4, hw5, hw6, hw7, hw8, hw9, hw10, hw11⟩ := id hw
  have hwa := hw5.1
  have hwb := hw6.1
  have hwc := hw7.1
  have hwd := hw8.1
  intro fu
  induction fu with
  | zero => intro y3 I J q z1 z2 h; cases h
  | succ fu ih =>
    intro y3 I J q z1 z2 h
    rw [f73_33] at h
    refine il3 c73_33 ?_
    refine al0 c73_34 ?_
    refine r_gi g73_35 (by first | rfl | assumption) rfl ?_
    refine r_icge (t := 73) c73_38 rfl (fun h1 => ?_) (fun h1 => ?_)
    · rw [if_neg (Int.not_lt.mpr h1)] at h
      cases h
      exact r_rv c73_73 rt73 rfl
    · rw [if_pos h1] at h
      refine al0 c73_41 ?_
      refine il3 c73_42 ?_
      refine cv2 q73_43 (d74 hw rfl) rfl ?_
      refine r_ic c73_46 kIm1 ?_
      refine r_iceq (t := 67) c73_47 rfl (fun h2 => ?_) (fun h2 => ?_)
      · rw [if_pos h2] at h
        refine ii3c c73_67 kI1 ?_
        refine r_go (t := 33) c73_70 rfl ?_
        exact ih h
      · rw [if_neg h2] at h
        refine al0 c73_50 ?_
        refine r_dpr c73_51 ?_
        refine r_gi g73_52 (by first | rfl | assumption) rfl ?_
        refine al0 c73_55 ?_
        refine r_gr g73_56 rfl rfl (hp _ _ _ rfl) ?_
        refine il3 c73_59 ?_
        refine cv2 q73_60 (s160 (by first | rfl | assumption) (by first | decide | assumption)) rfl ?_
        refine r_iadd c73_63 ?_
        refine w_pi p73_64 (by first | rfl | assumption) rfl ?_
        rw [pm_lt_eq] at h
        generalize pm_w I 104 11 ((I 104 11) + (pm_at (I 107) 8 y3)) = I3 at h ⊢
        refine ii3c c73_67 kI1 ?_
        refine r_go (t := 33) c73_70 rfl ?_
        exact ih h
theorem d73 {X : (Nat → Int32) × Nat} {d : Nat} {I : Nat → Nat → Int32} {J : Nat → Nat → Int64} {P : Nat → Nat → Value} {e r k r2 k2 : Nat} {x1 : Int64} {q : Unit × (Nat → Nat → Int32) × (Nat → Nat → Int64)} (hw : pm_W P r k r2 k2)  (h : f73 x1 I J = some q) : pm_Fn X (d + 2) 73 1 [.ref 104, .long x1] (I, J, P, pm_T0, e) (.inl none) (q.2.1, q.2.2, P, pm_T0, e) := by
  obtain ⟨hp, hw1, hw2, hw3, hw4, hw5, hw6, hw7, hw8, hw9, hw10, hw11⟩ := id hw
  have hwa := hw5.1
  have hwb := hw6.1
  have hwc := hw7.1
  have hwd := hw8.1
  unfold f73 at h
  refine fn_v rc73 (c := 4) (nf := 13) (by first | rfl | assumption) ml73 rfl rfl rfl rfl ?_
  refine al0 c73_0 ?_
  refine ll1 c73_1 ?_
  refine r_lneg c73_2 ?_
  refine r_kl v73_3 ?_
  refine r_land c73_6 ?_
  refine r_l2i c73_7 ?_
  refine w_pi p73_8 (by first | rfl | assumption) rfl ?_
  rw [pm_lt_eq] at h
  generalize pm_w I 104 12 (((-x1) &&& 16777215).toInt32) = I1 at h ⊢
  refine al0 c73_11 ?_
  refine ll1 c73_12 ?_
  refine al0 c73_13 ?_
  refine r_gi g73_14 (by first | rfl | assumption) rfl ?_
  refine r_i2l c73_17 ?_
  refine r_ladd c73_18 ?_
  refine r_bi c73_19 kB24 ?_
  refine r_lshr c73_21 ?_
  refine r_l2i c73_22 ?_
  refine w_pi p73_23 (by first | rfl | assumption) rfl ?_
  rw [pm_lt_eq] at h
  generalize pm_w I1 104 10 (((x1 + ((I1 104 12).toInt64)) >>> ((24 : Int32).toInt64 &&& 63)).toInt32) = I2 at h ⊢
  refine al0 c73_26 ?_
  refine r_ic c73_27 kI0 ?_
  refine w_pi p73_28 (by first | rfl | assumption) rfl ?_
  rw [pm_lt_eq] at h
  generalize pm_w I2 104 11 0 = I3 at h ⊢
  refine r_ic c73_31 kI0 ?_
  refine is3 c73_32 rfl ?_
  exact d73_33 hw pm_FU h
def f63_L (r : Nat)  : Nat → Nat → Int32 → Int32 → Int32 → (Nat → Nat → Int32) → (Nat → Nat → Int64) → Option (Unit × (Nat → Nat → Int32) × (Nat → Nat → Int64))
  | 0, _, _, _, _, _, _ => none
  | fu + 1, 0, y2, y3, _, I, J => (if y2.toInt < y3.toInt then (f36 r 1 I J).bind (fun (ov2, I3, J4) => f63_L r fu 1 y2 ov2 ((I3 104 7) - 1) I3 J4) else (if y3.toInt < (nI 3125).toInt then pm_gd (pm_in y3 3125) (pm_lt (pm_wl J 105 (y3).toNatClampNeg 0) (fun J12 => f63_L r fu 0 y2 (y3 + 1) 0 I J12)) else (f36 r 1 I J).bind (fun (ov7, I8, J9) => f63_L r fu 1 y2 ov7 ((I8 104 7) - 1) I8 J9)))
  | fu + 1, _ + 1, y2, y3, y4, I, J => (if y4.toInt < 0 then (if y2.toInt < 0 then (f73 0 I J).bind (fun (ov15, I16, J17) => some ((), I16, J17)) else (if y2.toInt < (nI 3125).toInt then pm_gd (pm_in y2 3125) ((f73 (J 105 (y2).toNatClampNeg) I J).bind (fun (ov25, I26, J27) => some ((), I26, J27))) else (f73 0 I J).bind (fun (ov20, I21, J22) => some ((), I21, J22)))) else (f68 y4 y2 (y3 - (pm_at (I 107) 8 y4)) I J).bind (fun (ov29, I30, J31) => f63_L r fu 1 y2 (y3 - (pm_at (I 107) 8 y4)) (y4 + (-1)) I30 J31))
def f63 (r : Nat)  (I : Nat → Nat → Int32) (J : Nat → Nat → Int64) : Option (Unit × (Nat → Nat → Int32) × (Nat → Nat → Int64)) := (f64 r I J).bind (fun (ov1, I2, J3) => (f67 r I2 J3).bind (fun (ov5, I6, J7) => f63_L r pm_FU 0 (ov5 - 1) 0 0 I6 J7))
theorem d63_L {X : (Nat → Int32) × Nat} {d : Nat} {P : Nat → Nat → Value} {e r k r2 k2 : Nat}  (hw : pm_W P r k r2 k2)  : ∀ fu : Nat, (∀ {y2 y3 : Int32} {I : Nat → Nat → Int32} {J : Nat → Nat → Int64} {q : Unit × (Nat → Nat → Int32) × (Nat → Nat → Int64)} {z4 : Value} (h : f63_L r fu 0 y2 y3 0 I J = some q), pm_Fx X (d + 6) 63 15 [.ref 104, .ref 3, .int y2, .int y3, z4] [] (I, J, P, pm_T0, e) (.inl none) (q.2.1, q.2.2, P, pm_T0, e)) ∧ (∀ {y2 y3 y4 : Int32} {I : Nat → Nat → Int32} {J : Nat → Nat → Int64} {q : Unit × (Nat → Nat → Int32) × (Nat → Nat → Int64)} {z1 : Value} (h : f63_L r fu 1 y2 y3 y4 I J = some q), pm_Fx X (d + 6) 63 56 [.ref 104, z1, .int y2, .int y3, .int y4] [] (I, J, P, pm_T0, e) (.inl none) (q.2.1, q.2.2, P, pm_T0, e)) := by
  obtain ⟨hp, hw1, hw2, hw3, hw4, hw5, hw6, hw7, hw8, hw9, hw10, hw11⟩ := id hw
  have hwa := hw5.1
  have hwb := hw6.1
  have hwc := hw7.1
  have hwd := hw8.1
  intro fu
  induction fu with
  | zero => exact ⟨(by intro y2 y3 I J q z4 h; cases h), (by intro y2 y3 y4 I J q z1 h; cases h)⟩
  | succ fu ih =>
    refine ⟨?_, ?_⟩
    · intro y2 y3 I J q z4 h
      rw [f63_L] at h
      refine il3 c63_15 ?_
      refine il2 c63_16 ?_
      refine r_icgt (t := 42) c63_17 rfl (fun h1 => ?_) (fun h1 => ?_)
      · rw [if_pos h1] at h
        refine al1 c63_42 ?_
        refine r_ic c63_43 kI1 ?_
        obtain ⟨⟨ov2, I3, J4⟩, e5, h⟩ := pm_bd_sp h
        dsimp only at h
        refine cv2 q63_44 (v := .int ov2) (μ1 := (I3, J4, P, pm_T0, e)) (d36 hw e5) rfl ?_
        refine is3 c63_47 rfl ?_
        refine al0 c63_48 ?_
        refine r_gi g63_49 (by first | rfl | assumption) rfl ?_
        refine r_ic c63_52 kI1 ?_
        refine r_isub c63_53 ?_
        refine is4 c63_54 rfl ?_
        exact ih.2 h
      · rw [if_neg (Int.not_lt.mpr h1)] at h
        refine il3 c63_20 ?_
        refine al0 c63_21 ?_
        refine r_gr g63_22 rfl rfl (hp _ _ _ rfl) ?_
        refine r_len c63_25 (by first | rfl | assumption) rfl ?_
        refine r_icge (t := 42) c63_26 rfl (fun h6 => ?_) (fun h6 => ?_)
        · rw [if_neg (Int.not_lt.mpr h6)] at h
          refine al1 c63_42 ?_
          refine r_ic c63_43 kI1 ?_
          obtain ⟨⟨ov7, I8, J9⟩, e10, h⟩ := pm_bd_sp h
          dsimp only at h
          refine cv2 q63_44 (v := .int ov7) (μ1 := (I8, J9, P, pm_T0, e)) (d36 hw e10) rfl ?_
          refine is3 c63_47 rfl ?_
          refine al0 c63_48 ?_
          refine r_gi g63_49 (by first | rfl | assumption) rfl ?_
          refine r_ic c63_52 kI1 ?_
          refine r_isub c63_53 ?_
          refine is4 c63_54 rfl ?_
          exact ih.2 h
        · rw [if_pos h6] at h
          refine al0 c63_29 ?_
          refine r_gr g63_30 rfl rfl (hp _ _ _ rfl) ?_
          refine il3 c63_33 ?_
          refine r_lc c63_34 kL0 ?_
          obtain ⟨gd11, h⟩ := pm_gd_sp h
          refine w_lst c63_35 (by first | rfl | assumption) gd11 ?_
          rw [pm_lt_eq] at h
          generalize pm_wl J 105 (y3).toNatClampNeg 0 = J12 at h ⊢
          refine ii3 c63_36 kI1 rfl ?_
          refine r_go (t := 15) c63_39 rfl ?_
          exact ih.1 h
    · intro y2 y3 y4 I J q z1 h
      rw [f63_L] at h
      refine il4 c63_56 ?_
      refine r_iflt (t := 87) c63_58 rfl (fun h13 => ?_) (fun h13 => ?_)
      · rw [if_pos h13] at h
        refine al0 c63_87 ?_
        refine il2 c63_88 ?_
        refine r_iflt (t := 110) c63_89 rfl (fun h14 => ?_) (fun h14 => ?_)
        · rw [if_pos h14] at h
          refine r_lc c63_110 kL0 ?_
          obtain ⟨⟨ov15, I16, J17⟩, e18, h⟩ := pm_bd_sp h
          dsimp only at h
          refine cz2 q63_111 (μ1 := (I16, J17, P, pm_T0, e)) (d73 hw e18) rfl ?_
          cases h
          exact r_rv c63_114 rt63 rfl
        · rw [if_neg (Int.not_lt.mpr h14)] at h
          refine il2 c63_92 ?_
          refine al0 c63_93 ?_
          refine r_gr g63_94 rfl rfl (hp _ _ _ rfl) ?_
          refine r_len c63_97 (by first | rfl | assumption) rfl ?_
          refine r_icge (t := 110) c63_98 rfl (fun h19 => ?_) (fun h19 => ?_)
          · rw [if_neg (Int.not_lt.mpr h19)] at h
            refine r_lc c63_110 kL0 ?_
            obtain ⟨⟨ov20, I21, J22⟩, e23, h⟩ := pm_bd_sp h
            dsimp only at h
            refine cz2 q63_111 (μ1 := (I21, J22, P, pm_T0, e)) (d73 hw e23) rfl ?_
            cases h
            exact r_rv c63_114 rt63 rfl
          · rw [if_pos h19] at h
            refine al0 c63_101 ?_
            refine r_gr g63_102 rfl rfl (hp _ _ _ rfl) ?_
            refine il2 c63_105 ?_
            obtain ⟨gd24, h⟩ := pm_gd_sp h
            refine w_la c63_106 (by first | rfl | assumption) gd24 ?_
            refine r_go (t := 111) c63_107 rfl ?_
            obtain ⟨⟨ov25, I26, J27⟩, e28, h⟩ := pm_bd_sp h
            dsimp only at h
            refine cz2 q63_111 (μ1 := (I26, J27, P, pm_T0, e)) (d73 hw e28) rfl ?_
            cases h
            exact r_rv c63_114 rt63 rfl
      · rw [if_neg (Int.not_lt.mpr h13)] at h
        refine il3 c63_61 ?_
        refine al0 c63_62 ?_
        refine r_gr g63_63 rfl rfl (hp _ _ _ rfl) ?_
        refine il4 c63_66 ?_
        refine cv2 q63_68 (s160 (by first | rfl | assumption) (by first | decide | assumption)) rfl ?_
        refine r_isub c63_71 ?_
        refine is3 c63_72 rfl ?_
        refine al0 c63_73 ?_
        refine il4 c63_74 ?_
        refine il2 c63_76 ?_
        refine il3 c63_77 ?_
        obtain ⟨⟨ov29, I30, J31⟩, e32, h⟩ := pm_bd_sp h
        dsimp only at h
        refine cz4 q63_78 (μ1 := (I30, J31, P, pm_T0, e)) (d68 hw e32) rfl ?_
        refine ii4 c63_81 kIm1 rfl ?_
        refine r_go (t := 56) c63_84 rfl ?_
        exact ih.2 h
theorem d63 {X : (Nat → Int32) × Nat} {d : Nat} {I : Nat → Nat → Int32} {J : Nat → Nat → Int64} {P : Nat → Nat → Value} {e r k r2 k2 : Nat}  {q : Unit × (Nat → Nat → Int32) × (Nat → Nat → Int64)} (hw : pm_W P r k r2 k2)  (h : f63 r I J = some q) : pm_Fn X (d + 6) 63 1 [.ref 104, .ref 3] (I, J, P, pm_T0, e) (.inl none) (q.2.1, q.2.2, P, pm_T0, e) := by
  obtain ⟨hp, hw1, hw2, hw3, hw4, hw5, hw6, hw7, hw8, hw9, hw10, hw11⟩ := id hw
  have hwa := hw5.1
  have hwb := hw6.1
  have hwc := hw7.1
  have hwd := hw8.1
  unfold f63 at h
  refine fn_v rc63 (c := 4) (nf := 13) (by first | rfl | assumption) ml63 rfl rfl rfl rfl ?_
  refine al0 c63_0 ?_
  refine al1 c63_1 ?_
  obtain ⟨⟨ov1, I2, J3⟩, e4, h⟩ := pm_bd_sp h
  dsimp only at h
  refine cz2 q63_2 (μ1 := (I2, J3, P, pm_T0, e)) (d64 hw e4) rfl ?_
  refine al0 c63_5 ?_
  refine al1 c63_6 ?_
  obtain ⟨⟨ov5, I6, J7⟩, e8, h⟩ := pm_bd_sp h
  dsimp only at h
  refine cv2 q63_7 (v := .int ov5) (μ1 := (I6, J7, P, pm_T0, e)) (d67 hw e8) rfl ?_
  refine r_ic c63_10 kI1 ?_
  refine r_isub c63_11 ?_
  refine is2 c63_12 rfl ?_
  refine r_ic c63_13 kI0 ?_
  refine is3 c63_14 rfl ?_
  exact (d63_L hw pm_FU).1 h
def f77 (x1 : Int32) (I : Nat → Nat → Int32) (J : Nat → Nat → Int64) : Option (Int32 × (Nat → Nat → Int32) × (Nat → Nat → Int64)) := (if x1.toInt < 0 then some ((-1), I, J) else (if x1.toInt < (nI 8).toInt then pm_gd (pm_in x1 8) (some (v74 (I 106 (x1).toNatClampNeg) I, I, J)) else some ((-1), I, J)))
theorem d77 {X : (Nat → Int32) × Nat} {d : Nat} {I : Nat → Nat → Int32} {J : Nat → Nat → Int64} {P : Nat → Nat → Value} {e r k r2 k2 : Nat} {x1 : Int32} {q : Int32 × (Nat → Nat → Int32) × (Nat → Nat → Int64)} (hw : pm_W P r k r2 k2)  (h : f77 x1 I J = some q) : pm_Fn X (d + 2) 77 1 [.ref 104, .int x1] (I, J, P, pm_T0, e) (.inl (some (.int q.1))) (q.2.1, q.2.2, P, pm_T0, e) := by
  obtain ⟨hp, hw1, hw2, hw3, hw4, hw5, hw6, hw7, hw8, hw9, hw10, hw11⟩ := id hw
  have hwa := hw5.1
  have hwb := hw6.1
  have hwc := hw7.1
  have hwd := hw8.1
  unfold f77 at h
  refine fn_v rc77 (c := 4) (nf := 13) (by first | rfl | assumption) ml77 rfl rfl rfl rfl ?_
  refine il1 c77_0 ?_
  refine r_iflt (t := 26) c77_1 rfl (fun h1 => ?_) (fun h1 => ?_)
  · rw [if_pos h1] at h
    refine r_ic c77_26 kIm1 ?_
    cases h
    exact r_ri c77_27 rt77 rfl rfl
  · rw [if_neg (Int.not_lt.mpr h1)] at h
    refine il1 c77_4 ?_
    refine al0 c77_5 ?_
    refine r_gr g77_6 rfl rfl (hp _ _ _ rfl) ?_
    refine r_len c77_9 (by first | rfl | assumption) rfl ?_
    refine r_icge (t := 26) c77_10 rfl (fun h2 => ?_) (fun h2 => ?_)
    · rw [if_neg (Int.not_lt.mpr h2)] at h
      refine r_ic c77_26 kIm1 ?_
      cases h
      exact r_ri c77_27 rt77 rfl rfl
    · rw [if_pos h2] at h
      refine al0 c77_13 ?_
      refine al0 c77_14 ?_
      refine r_gr g77_15 rfl rfl (hp _ _ _ rfl) ?_
      refine il1 c77_18 ?_
      obtain ⟨gd3, h⟩ := pm_gd_sp h
      refine w_ia c77_19 (by first | rfl | assumption) gd3 ?_
      refine cv2 q77_20 (d74 hw rfl) rfl ?_
      refine r_go (t := 27) c77_23 rfl ?_
      cases h
      exact r_ri c77_27 rt77 rfl rfl
def f88  (I : Nat → Nat → Int32) (J : Nat → Nat → Int64) : Option (Int32 × (Nat → Nat → Int32) × (Nat → Nat → Int64)) := (f132 2 I J).bind (fun (ov1, I2, J3) => (if ov1 = true then some (0, I2, J3) else (f132 4 I2 J3).bind (fun (ov6, I7, J8) => (if ov6 = true then some (1, I7, J8) else (f132 6 I7 J8).bind (fun (ov11, I12, J13) => (if ov11 = true then some (2, I12, J13) else (f132 8 I12 J13).bind (fun (ov16, I17, J18) => (if ov16 = true then some (3, I17, J18) else (f132 10 I17 J18).bind (fun (ov21, I22, J23) => (if ov21 = true then some (4, I22, J23) else some ((-1), I22, J23)))))))))))
theorem d88 {X : (Nat → Int32) × Nat} {d : Nat} {I : Nat → Nat → Int32} {J : Nat → Nat → Int64} {P : Nat → Nat → Value} {e r k r2 k2 : Nat}  {q : Int32 × (Nat → Nat → Int32) × (Nat → Nat → Int64)} (hw : pm_W P r k r2 k2)  (h : f88  I J = some q) : pm_Fn X (d + 6) 88 0 [.ref 1] (I, J, P, pm_T0, e) (.inl (some (.int q.1))) (q.2.1, q.2.2, P, pm_T0, e) := by
  obtain ⟨hp, hw1, hw2, hw3, hw4, hw5, hw6, hw7, hw8, hw9, hw10, hw11⟩ := id hw
  have hwa := hw5.1
  have hwb := hw6.1
  have hwc := hw7.1
  have hwd := hw8.1
  unfold f88 at h
  refine fn_s ml88 rfl rfl rfl ?_
  refine al0 c88_0 ?_
  refine r_ks v88_1 ?_
  obtain ⟨⟨ov1, I2, J3⟩, e4, h⟩ := pm_bd_sp h
  dsimp only at h
  refine cv2 q88_3 (v := .int (pm_bi ov1)) (μ1 := (I2, J3, P, pm_T0, e)) (d132 hw (by first | rfl | assumption | decide) e4) rfl ?_
  refine r_ifeq (t := 11) c88_6 rfl (fun h5 => ?_) (fun h5 => ?_)
  · rw [if_neg (pm_bf h5)] at h
    refine al0 c88_11 ?_
    refine r_ks v88_12 ?_
    obtain ⟨⟨ov6, I7, J8⟩, e9, h⟩ := pm_bd_sp h
    dsimp only at h
    refine cv2 q88_14 (v := .int (pm_bi ov6)) (μ1 := (I7, J8, P, pm_T0, e)) (d132 hw (by first | rfl | assumption | decide) e9) rfl ?_
    refine r_ifeq (t := 22) c88_17 rfl (fun h10 => ?_) (fun h10 => ?_)
    · rw [if_neg (pm_bf h10)] at h
      refine al0 c88_22 ?_
      refine r_ks v88_23 ?_
      obtain ⟨⟨ov11, I12, J13⟩, e14, h⟩ := pm_bd_sp h
      dsimp only at h
      refine cv2 q88_25 (v := .int (pm_bi ov11)) (μ1 := (I12, J13, P, pm_T0, e)) (d132 hw (by first | rfl | assumption | decide) e14) rfl ?_
      refine r_ifeq (t := 33) c88_28 rfl (fun h15 => ?_) (fun h15 => ?_)
      · rw [if_neg (pm_bf h15)] at h
        refine al0 c88_33 ?_
        refine r_ks v88_34 ?_
        obtain ⟨⟨ov16, I17, J18⟩, e19, h⟩ := pm_bd_sp h
        dsimp only at h
        refine cv2 q88_36 (v := .int (pm_bi ov16)) (μ1 := (I17, J18, P, pm_T0, e)) (d132 hw (by first | rfl | assumption | decide) e19) rfl ?_
        refine r_ifeq (t := 44) c88_39 rfl (fun h20 => ?_) (fun h20 => ?_)
        · rw [if_neg (pm_bf h20)] at h
          refine al0 c88_44 ?_
          refine r_ks v88_45 ?_
          obtain ⟨⟨ov21, I22, J23⟩, e24, h⟩ := pm_bd_sp h
          dsimp only at h
          refine cv2 q88_47 (v := .int (pm_bi ov21)) (μ1 := (I22, J23, P, pm_T0, e)) (d132 hw (by first | rfl | assumption | decide) e24) rfl ?_
          refine r_ifeq (t := 57) c88_50 rfl (fun h25 => ?_) (fun h25 => ?_)
          · rw [if_neg (pm_bf h25)] at h
            refine r_ic c88_57 kIm1 ?_
            cases h
            exact r_ri c88_58 rt88 rfl rfl
          · rw [if_pos (pm_bt h25)] at h
            refine r_ic c88_53 kI4 ?_
            refine r_go (t := 58) c88_54 rfl ?_
            cases h
            exact r_ri c88_58 rt88 rfl rfl
        · rw [if_pos (pm_bt h20)] at h
          refine r_ic c88_42 kI3 ?_
          cases h
          exact r_ri c88_43 rt88 rfl rfl
      · rw [if_pos (pm_bt h15)] at h
        refine r_ic c88_31 kI2 ?_
        cases h
        exact r_ri c88_32 rt88 rfl rfl
    · rw [if_pos (pm_bt h10)] at h
      refine r_ic c88_20 kI1 ?_
      cases h
      exact r_ri c88_21 rt88 rfl rfl
  · rw [if_pos (pm_bt h5)] at h
    refine r_ic c88_9 kI0 ?_
    cases h
    exact r_ri c88_10 rt88 rfl rfl
def f89 (a0 : Nat) (I : Nat → Nat → Int32) (J : Nat → Nat → Int64) : Option (Unit × (Nat → Nat → Int32) × (Nat → Nat → Int64)) := (f134 1 9 I J).bind (fun (ov1, I2, J3) => pm_lt (pm_pw I2 (a0 + 1) 8 (I a0 7) ov1) (fun I5 => (f134 0 5 I5 J3).bind (fun (ov6, I7, J8) => pm_lt (pm_pw I7 (a0 + 2) 8 (I5 a0 7) ov6) (fun I10 => (f134 0 4 I10 J8).bind (fun (ov11, I12, J13) => pm_lt (pm_pw I12 (a0 + 3) 8 (I10 a0 7) ov11) (fun I15 => pm_lt (pm_pw I15 (a0 + 4) 8 (I15 a0 7) 0) (fun I16 => pm_lt (pm_w I16 a0 7 ((I16 a0 7) + 1)) (fun I17 => some ((), I17, J13)))))))))
theorem d89 {X : (Nat → Int32) × Nat} {d : Nat} {I : Nat → Nat → Int32} {J : Nat → Nat → Int64} {P : Nat → Nat → Value} {e r k r2 k2 : Nat} {a0 : Nat} {q : Unit × (Nat → Nat → Int32) × (Nat → Nat → Int64)} (hw : pm_W P r k r2 k2) (hy0 : pm_rgT P a0) (h : f89 a0 I J = some q) : pm_Fn X (d + 3) 89 1 [.ref a0, .ref 1] (I, J, P, pm_T0, e) (.inl none) (q.2.1, q.2.2, P, pm_T0, e) := by
  obtain ⟨hp, hw1, hw2, hw3, hw4, hw5, hw6, hw7, hw8, hw9, hw10, hw11⟩ := id hw
  have hwa := hw5.1
  have hwb := hw6.1
  have hwc := hw7.1
  have hwd := hw8.1
  obtain ⟨t0, ⟨t1, t2, t3, t4, t5, t6, t7⟩, u0, u1, u2, u3, u4, u5, u6⟩ := id hy0
  unfold f89 at h
  refine fn_v rc89 (c := 5) (nf := 11) (by first | rfl | assumption) ml89 rfl rfl rfl rfl ?_
  refine al0 c89_0 ?_
  refine r_gr g89_1 (by first | rfl | assumption) rfl (by assumption) ?_
  refine al0 c89_4 ?_
  refine r_gi g89_5 (by first | rfl | assumption) rfl ?_
  refine al1 c89_8 ?_
  refine r_ic c89_9 kI1 ?_
  refine r_bi c89_10 kB9 ?_
  obtain ⟨⟨ov1, I2, J3⟩, e4, h⟩ := pm_bd_sp h
  dsimp only at h
  refine cv3 q89_12 (v := .int ov1) (μ1 := (I2, J3, P, pm_T0, e)) (d134 hw e4) rfl ?_
  refine cz3 q89_15 (t159 (by first | rfl | assumption) (by first | decide | assumption)) rfl ?_
  rw [pm_lt_eq] at h
  generalize pm_pw I2 (a0 + 1) 8 (I a0 7) ov1 = I5 at h ⊢
  refine al0 c89_18 ?_
  refine r_gr g89_19 (by first | rfl | assumption) rfl (by assumption) ?_
  refine al0 c89_22 ?_
  refine r_gi g89_23 (by first | rfl | assumption) rfl ?_
  refine al1 c89_26 ?_
  refine r_ic c89_27 kI0 ?_
  refine r_ic c89_28 kI5 ?_
  obtain ⟨⟨ov6, I7, J8⟩, e9, h⟩ := pm_bd_sp h
  dsimp only at h
  refine cv3 q89_29 (v := .int ov6) (μ1 := (I7, J8, P, pm_T0, e)) (d134 hw e9) rfl ?_
  refine cz3 q89_32 (t159 (by first | rfl | assumption) (by first | decide | assumption)) rfl ?_
  rw [pm_lt_eq] at h
  generalize pm_pw I7 (a0 + 2) 8 (I5 a0 7) ov6 = I10 at h ⊢
  refine al0 c89_35 ?_
  refine r_gr g89_36 (by first | rfl | assumption) rfl (by assumption) ?_
  refine al0 c89_39 ?_
  refine r_gi g89_40 (by first | rfl | assumption) rfl ?_
  refine al1 c89_43 ?_
  refine r_ic c89_44 kI0 ?_
  refine r_ic c89_45 kI4 ?_
  obtain ⟨⟨ov11, I12, J13⟩, e14, h⟩ := pm_bd_sp h
  dsimp only at h
  refine cv3 q89_46 (v := .int ov11) (μ1 := (I12, J13, P, pm_T0, e)) (d134 hw e14) rfl ?_
  refine cz3 q89_49 (t159 (by first | rfl | assumption) (by first | decide | assumption)) rfl ?_
  rw [pm_lt_eq] at h
  generalize pm_pw I12 (a0 + 3) 8 (I10 a0 7) ov11 = I15 at h ⊢
  refine al0 c89_52 ?_
  refine r_gr g89_53 (by first | rfl | assumption) rfl (by assumption) ?_
  refine al0 c89_56 ?_
  refine r_gi g89_57 (by first | rfl | assumption) rfl ?_
  refine r_ic c89_60 kI0 ?_
  refine cz3 q89_61 (t159 (by first | rfl | assumption) (by first | decide | assumption)) rfl ?_
  rw [pm_lt_eq] at h
  generalize pm_pw I15 (a0 + 4) 8 (I15 a0 7) 0 = I16 at h ⊢
  refine al0 c89_64 ?_
  refine r_dpr c89_65 ?_
  refine r_gi g89_66 (by first | rfl | assumption) rfl ?_
  refine r_ic c89_69 kI1 ?_
  refine r_iadd c89_70 ?_
  refine w_pi p89_71 (by first | rfl | assumption) rfl ?_
  rw [pm_lt_eq] at h
  generalize pm_w I16 a0 7 ((I16 a0 7) + 1) = I17 at h ⊢
  cases h
  exact r_rv c89_74 rt89 rfl
def f90 (a0 : Nat) (I : Nat → Nat → Int32) (J : Nat → Nat → Int64) : Option (Unit × (Nat → Nat → Int32) × (Nat → Nat → Int64)) := (f134 0 5 I J).bind (fun (ov1, I2, J3) => pm_lt (pm_pw I2 (a0 + 5) 5 (I a0 8) ov1) (fun I5 => (f134 1 40 I5 J3).bind (fun (ov6, I7, J8) => pm_lt (pm_pw I7 (a0 + 6) 5 (I5 a0 8) ov6) (fun I10 => (f134 1 4 I10 J8).bind (fun (ov11, I12, J13) => pm_lt (pm_pw I12 (a0 + 7) 5 (I10 a0 8) ov11) (fun I15 => pm_lt (pm_w I15 a0 8 ((I15 a0 8) + 1)) (fun I16 => some ((), I16, J13))))))))
theorem d90 {X : (Nat → Int32) × Nat} {d : Nat} {I : Nat → Nat → Int32} {J : Nat → Nat → Int64} {P : Nat → Nat → Value} {e r k r2 k2 : Nat} {a0 : Nat} {q : Unit × (Nat → Nat → Int32) × (Nat → Nat → Int64)} (hw : pm_W P r k r2 k2) (hy0 : pm_rgT P a0) (h : f90 a0 I J = some q) : pm_Fn X (d + 3) 90 1 [.ref a0, .ref 1] (I, J, P, pm_T0, e) (.inl none) (q.2.1, q.2.2, P, pm_T0, e) := by
  obtain ⟨hp, hw1, hw2, hw3, hw4, hw5, hw6, hw7, hw8, hw9, hw10, hw11⟩ := id hw
  have hwa := hw5.1
  have hwb := hw6.1
  have hwc := hw7.1
  have hwd := hw8.1
  obtain ⟨t0, ⟨t1, t2, t3, t4, t5, t6, t7⟩, u0, u1, u2, u3, u4, u5, u6⟩ := id hy0
  unfold f90 at h
  refine fn_v rc90 (c := 5) (nf := 11) (by first | rfl | assumption) ml90 rfl rfl rfl rfl ?_
  refine al0 c90_0 ?_
  refine r_gr g90_1 (by first | rfl | assumption) rfl (by assumption) ?_
  refine al0 c90_4 ?_
  refine r_gi g90_5 (by first | rfl | assumption) rfl ?_
  refine al1 c90_8 ?_
  refine r_ic c90_9 kI0 ?_
  refine r_ic c90_10 kI5 ?_
  obtain ⟨⟨ov1, I2, J3⟩, e4, h⟩ := pm_bd_sp h
  dsimp only at h
  refine cv3 q90_11 (v := .int ov1) (μ1 := (I2, J3, P, pm_T0, e)) (d134 hw e4) rfl ?_
  refine cz3 q90_14 (t159 (by first | rfl | assumption) (by first | decide | assumption)) rfl ?_
  rw [pm_lt_eq] at h
  generalize pm_pw I2 (a0 + 5) 5 (I a0 8) ov1 = I5 at h ⊢
  refine al0 c90_17 ?_
  refine r_gr g90_18 (by first | rfl | assumption) rfl (by assumption) ?_
  refine al0 c90_21 ?_
  refine r_gi g90_22 (by first | rfl | assumption) rfl ?_
  refine al1 c90_25 ?_
  refine r_ic c90_26 kI1 ?_
  refine r_bi c90_27 kB40 ?_
  obtain ⟨⟨ov6, I7, J8⟩, e9, h⟩ := pm_bd_sp h
  dsimp only at h
  refine cv3 q90_29 (v := .int ov6) (μ1 := (I7, J8, P, pm_T0, e)) (d134 hw e9) rfl ?_
  refine cz3 q90_32 (t159 (by first | rfl | assumption) (by first | decide | assumption)) rfl ?_
  rw [pm_lt_eq] at h
  generalize pm_pw I7 (a0 + 6) 5 (I5 a0 8) ov6 = I10 at h ⊢
  refine al0 c90_35 ?_
  refine r_gr g90_36 (by first | rfl | assumption) rfl (by assumption) ?_
  refine al0 c90_39 ?_
  refine r_gi g90_40 (by first | rfl | assumption) rfl ?_
  refine al1 c90_43 ?_
  refine r_ic c90_44 kI1 ?_
  refine r_ic c90_45 kI4 ?_
  obtain ⟨⟨ov11, I12, J13⟩, e14, h⟩ := pm_bd_sp h
  dsimp only at h
  refine cv3 q90_46 (v := .int ov11) (μ1 := (I12, J13, P, pm_T0, e)) (d134 hw e14) rfl ?_
  refine cz3 q90_49 (t159 (by first | rfl | assumption) (by first | decide | assumption)) rfl ?_
  rw [pm_lt_eq] at h
  generalize pm_pw I12 (a0 + 7) 5 (I10 a0 8) ov11 = I15 at h ⊢
  refine al0 c90_52 ?_
  refine r_dpr c90_53 ?_
  refine r_gi g90_54 (by first | rfl | assumption) rfl ?_
  refine r_ic c90_57 kI1 ?_
  refine r_iadd c90_58 ?_
  refine w_pi p90_59 (by first | rfl | assumption) rfl ?_
  rw [pm_lt_eq] at h
  generalize pm_w I15 a0 8 ((I15 a0 8) + 1) = I16 at h ⊢
  cases h
  exact r_rv c90_62 rt90 rfl
def f91 (a0 : Nat) (I : Nat → Nat → Int32) (J : Nat → Nat → Int64) : Option (Unit × (Nat → Nat → Int32) × (Nat → Nat → Int64)) := (f134 0 ((I a0 7) - 1) I J).bind (fun (ov1, I2, J3) => (f134 0 999 I2 J3).bind (fun (ov5, I6, J7) => pm_lt (pm_pw I6 (a0 + 4) 8 ov1 ov5) (fun I9 => some ((), I9, J7))))
theorem d91 {X : (Nat → Int32) × Nat} {d : Nat} {I : Nat → Nat → Int32} {J : Nat → Nat → Int64} {P : Nat → Nat → Value} {e r k r2 k2 : Nat} {a0 : Nat} {q : Unit × (Nat → Nat → Int32) × (Nat → Nat → Int64)} (hw : pm_W P r k r2 k2) (hy0 : pm_rgT P a0) (h : f91 a0 I J = some q) : pm_Fn X (d + 3) 91 1 [.ref a0, .ref 1] (I, J, P, pm_T0, e) (.inl none) (q.2.1, q.2.2, P, pm_T0, e) := by
  obtain ⟨hp, hw1, hw2, hw3, hw4, hw5, hw6, hw7, hw8, hw9, hw10, hw11⟩ := id hw
  have hwa := hw5.1
  have hwb := hw6.1
  have hwc := hw7.1
  have hwd := hw8.1
  obtain ⟨t0, ⟨t1, t2, t3, t4, t5, t6, t7⟩, u0, u1, u2, u3, u4, u5, u6⟩ := id hy0
  unfold f91 at h
  refine fn_v rc91 (c := 5) (nf := 11) (by first | rfl | assumption) ml91 rfl rfl rfl rfl ?_
  refine al1 c91_0 ?_
  refine r_ic c91_1 kI0 ?_
  refine al0 c91_2 ?_
  refine r_gi g91_3 (by first | rfl | assumption) rfl ?_
  refine r_ic c91_6 kI1 ?_
  refine r_isub c91_7 ?_
  obtain ⟨⟨ov1, I2, J3⟩, e4, h⟩ := pm_bd_sp h
  dsimp only at h
  refine cv3 q91_8 (v := .int ov1) (μ1 := (I2, J3, P, pm_T0, e)) (d134 hw e4) rfl ?_
  refine is2 c91_11 rfl ?_
  refine al0 c91_12 ?_
  refine r_gr g91_13 (by first | rfl | assumption) rfl (by assumption) ?_
  refine il2 c91_16 ?_
  refine al1 c91_17 ?_
  refine r_ic c91_18 kI0 ?_
  refine r_si c91_19 kS999 ?_
  obtain ⟨⟨ov5, I6, J7⟩, e8, h⟩ := pm_bd_sp h
  dsimp only at h
  refine cv3 q91_22 (v := .int ov5) (μ1 := (I6, J7, P, pm_T0, e)) (d134 hw e8) rfl ?_
  refine cz3 q91_25 (t159 (by first | rfl | assumption) (by first | decide | assumption)) rfl ?_
  rw [pm_lt_eq] at h
  generalize pm_pw I6 (a0 + 4) 8 ov1 ov5 = I9 at h ⊢
  cases h
  exact r_rv c91_28 rt91 rfl
def f87 (a0 : Nat) (x2 : Int32) (I : Nat → Nat → Int32) (J : Nat → Nat → Int64) : Option (Unit × (Nat → Nat → Int32) × (Nat → Nat → Int64)) := (f88  I J).bind (fun (ov1, I2, J3) => (if ov1 = (-1) then (f133 1 I2 J3).bind (fun (ov229, I230, J231) => some ((), I230, J231)) else (if x2 = 0 then (if ov1 = 0 then (if (I2 a0 7).toInt < (8 : Int32).toInt then (if ov1 = 1 then (if (I2 a0 8).toInt < (5 : Int32).toInt then (f128  I2 J3).bind (fun (ov175, I176, J177) => (if ov1 = 0 then (f89 a0 I176 J177).bind (fun (ov180, I181, J182) => (f135 59 I181 J182).bind (fun (ov184, I185, J186) => some ((), I185, J186))) else if ov1 = 1 then (f90 a0 I176 J177).bind (fun (ov189, I190, J191) => (f135 59 I190 J191).bind (fun (ov193, I194, J195) => some ((), I194, J195))) else if ov1 = 2 then (f91 a0 I176 J177).bind (fun (ov198, I199, J200) => (f135 59 I199 J200).bind (fun (ov202, I203, J204) => some ((), I203, J204))) else if ov1 = 3 then (f134 0 400 I176 J177).bind (fun (ov207, I208, J209) => pm_lt (pm_w I208 a0 9 ov207) (fun I211 => (f135 59 I211 J209).bind (fun (ov212, I213, J214) => some ((), I213, J214)))) else (f134 0 20 I176 J177).bind (fun (ov216, I217, J218) => pm_lt (pm_w I217 a0 10 ov216) (fun I220 => (f135 59 I220 J218).bind (fun (ov221, I222, J223) => some ((), I222, J223)))))) else (f133 3 I2 J3).bind (fun (ov225, I226, J227) => some ((), I226, J227))) else (f128  I2 J3).bind (fun (ov124, I125, J126) => (if ov1 = 0 then (f89 a0 I125 J126).bind (fun (ov129, I130, J131) => (f135 59 I130 J131).bind (fun (ov133, I134, J135) => some ((), I134, J135))) else if ov1 = 1 then (f90 a0 I125 J126).bind (fun (ov138, I139, J140) => (f135 59 I139 J140).bind (fun (ov142, I143, J144) => some ((), I143, J144))) else if ov1 = 2 then (f91 a0 I125 J126).bind (fun (ov147, I148, J149) => (f135 59 I148 J149).bind (fun (ov151, I152, J153) => some ((), I152, J153))) else if ov1 = 3 then (f134 0 400 I125 J126).bind (fun (ov156, I157, J158) => pm_lt (pm_w I157 a0 9 ov156) (fun I160 => (f135 59 I160 J158).bind (fun (ov161, I162, J163) => some ((), I162, J163)))) else (f134 0 20 I125 J126).bind (fun (ov165, I166, J167) => pm_lt (pm_w I166 a0 10 ov165) (fun I169 => (f135 59 I169 J167).bind (fun (ov170, I171, J172) => some ((), I171, J172))))))) else (f133 3 I2 J3).bind (fun (ov119, I120, J121) => some ((), I120, J121))) else (if ov1 = 1 then (if (I2 a0 8).toInt < (5 : Int32).toInt then (f128  I2 J3).bind (fun (ov64, I65, J66) => (if ov1 = 0 then (f89 a0 I65 J66).bind (fun (ov69, I70, J71) => (f135 59 I70 J71).bind (fun (ov73, I74, J75) => some ((), I74, J75))) else if ov1 = 1 then (f90 a0 I65 J66).bind (fun (ov78, I79, J80) => (f135 59 I79 J80).bind (fun (ov82, I83, J84) => some ((), I83, J84))) else if ov1 = 2 then (f91 a0 I65 J66).bind (fun (ov87, I88, J89) => (f135 59 I88 J89).bind (fun (ov91, I92, J93) => some ((), I92, J93))) else if ov1 = 3 then (f134 0 400 I65 J66).bind (fun (ov96, I97, J98) => pm_lt (pm_w I97 a0 9 ov96) (fun I100 => (f135 59 I100 J98).bind (fun (ov101, I102, J103) => some ((), I102, J103)))) else (f134 0 20 I65 J66).bind (fun (ov105, I106, J107) => pm_lt (pm_w I106 a0 10 ov105) (fun I109 => (f135 59 I109 J107).bind (fun (ov110, I111, J112) => some ((), I111, J112)))))) else (f133 3 I2 J3).bind (fun (ov114, I115, J116) => some ((), I115, J116))) else (f128  I2 J3).bind (fun (ov13, I14, J15) => (if ov1 = 0 then (f89 a0 I14 J15).bind (fun (ov18, I19, J20) => (f135 59 I19 J20).bind (fun (ov22, I23, J24) => some ((), I23, J24))) else if ov1 = 1 then (f90 a0 I14 J15).bind (fun (ov27, I28, J29) => (f135 59 I28 J29).bind (fun (ov31, I32, J33) => some ((), I32, J33))) else if ov1 = 2 then (f91 a0 I14 J15).bind (fun (ov36, I37, J38) => (f135 59 I37 J38).bind (fun (ov40, I41, J42) => some ((), I41, J42))) else if ov1 = 3 then (f134 0 400 I14 J15).bind (fun (ov45, I46, J47) => pm_lt (pm_w I46 a0 9 ov45) (fun I49 => (f135 59 I49 J47).bind (fun (ov50, I51, J52) => some ((), I51, J52)))) else (f134 0 20 I14 J15).bind (fun (ov54, I55, J56) => pm_lt (pm_w I55 a0 10 ov54) (fun I58 => (f135 59 I58 J56).bind (fun (ov59, I60, J61) => some ((), I60, J61)))))))) else (f133 3 I2 J3).bind (fun (ov7, I8, J9) => some ((), I8, J9)))))
theorem d87 {X : (Nat → Int32) × Nat} {d : Nat} {I : Nat → Nat → Int32} {J : Nat → Nat → Int64} {P : Nat → Nat → Value} {e r k r2 k2 : Nat} {a0 : Nat} {x2 : Int32} {q : Unit × (Nat → Nat → Int32) × (Nat → Nat → Int64)} (hw : pm_W P r k r2 k2) (hy0 : pm_rgT P a0) (h : f87 a0 x2 I J = some q) : pm_Fn X (d + 7) 87 1 [.ref a0, .ref 1, .int x2] (I, J, P, pm_T0, e) (.inl none) (q.2.1, q.2.2, P, pm_T0, e) := by
  obtain ⟨hp, hw1, hw2, hw3, hw4, hw5, hw6, hw7, hw8, hw9, hw10, hw11⟩ := id hw
  have hwa := hw5.1
  have hwb := hw6.1
  have hwc := hw7.1
  have hwd := hw8.1
  obtain ⟨t0, ⟨t1, t2, t3, t4, t5, t6, t7⟩, u0, u1, u2, u3, u4, u5, u6⟩ := id hy0
  unfold f87 at h
  refine fn_v rc87 (c := 5) (nf := 11) (by first | rfl | assumption) ml87 rfl rfl rfl rfl ?_
  refine al1 c87_0 ?_
  obtain ⟨⟨ov1, I2, J3⟩, e4, h⟩ := pm_bd_sp h
  dsimp only at h
  refine cv1 q87_1 (v := .int ov1) (μ1 := (I2, J3, P, pm_T0, e)) (d88 hw e4) rfl ?_
  refine is3 c87_4 rfl ?_
  refine il3 c87_5 ?_
  refine r_ic c87_6 kIm1 ?_
  refine r_icne (t := 16) c87_7 rfl (fun h5 => ?_) (fun h5 => ?_)
  · rw [if_neg h5] at h
    refine il2 c87_16 ?_
    refine r_ifne (t := 46) c87_17 rfl (fun h6 => ?_) (fun h6 => ?_)
    · rw [if_neg h6] at h
      refine al1 c87_46 ?_
      refine r_ic c87_47 kI3 ?_
      obtain ⟨⟨ov7, I8, J9⟩, e10, h⟩ := pm_bd_sp h
      dsimp only at h
      refine cz2 q87_48 (μ1 := (I8, J9, P, pm_T0, e)) (d133 hw e10) rfl ?_
      cases h
      exact r_rv c87_51 rt87 rfl
    · rw [if_pos h6] at h
      refine il3 c87_20 ?_
      refine r_ifne (t := 33) c87_21 rfl (fun h11 => ?_) (fun h11 => ?_)
      · rw [if_neg h11] at h
        refine il3 c87_33 ?_
        refine r_ic c87_34 kI1 ?_
        refine r_icne (t := 52) c87_35 rfl (fun h12 => ?_) (fun h12 => ?_)
        · rw [if_neg h12] at h
          refine al1 c87_52 ?_
          obtain ⟨⟨ov13, I14, J15⟩, e16, h⟩ := pm_bd_sp h
          dsimp only at h
          refine cz1 q87_53 (μ1 := (I14, J15, P, pm_T0, e)) (d128 hw e16) rfl ?_
          refine il3 c87_56 ?_
          by_cases h17 : ov1 = 0
          · rw [if_pos h17] at h
            refine r_ts (t := 88) (o := 31) c87_57 (by rw [h17]; decide) rfl ?_
            refine al0 c87_88 ?_
            refine al1 c87_89 ?_
            obtain ⟨⟨ov18, I19, J20⟩, e21, h⟩ := pm_bd_sp h
            dsimp only at h
            refine cz2 q87_90 (μ1 := (I19, J20, P, pm_T0, e)) (d89 hw (by first | rfl | assumption | decide) e21) rfl ?_
            refine r_go (t := 138) c87_93 rfl ?_
            refine al1 c87_138 ?_
            refine r_bi c87_139 kB59 ?_
            obtain ⟨⟨ov22, I23, J24⟩, e25, h⟩ := pm_bd_sp h
            dsimp only at h
            refine cz2 q87_141 (μ1 := (I23, J24, P, pm_T0, e)) (d135 hw e25) rfl ?_
            cases h
            exact r_rv c87_144 rt87 rfl
          · rw [if_neg h17] at h
            by_cases h26 : ov1 = 1
            · rw [if_pos h26] at h
              refine r_ts (t := 96) (o := 39) c87_57 (by rw [h26]; decide) rfl ?_
              refine al0 c87_96 ?_
              refine al1 c87_97 ?_
              obtain ⟨⟨ov27, I28, J29⟩, e30, h⟩ := pm_bd_sp h
              dsimp only at h
              refine cz2 q87_98 (μ1 := (I28, J29, P, pm_T0, e)) (d90 hw (by first | rfl | assumption | decide) e30) rfl ?_
              refine r_go (t := 138) c87_101 rfl ?_
              refine al1 c87_138 ?_
              refine r_bi c87_139 kB59 ?_
              obtain ⟨⟨ov31, I32, J33⟩, e34, h⟩ := pm_bd_sp h
              dsimp only at h
              refine cz2 q87_141 (μ1 := (I32, J33, P, pm_T0, e)) (d135 hw e34) rfl ?_
              cases h
              exact r_rv c87_144 rt87 rfl
            · rw [if_neg h26] at h
              by_cases h35 : ov1 = 2
              · rw [if_pos h35] at h
                refine r_ts (t := 104) (o := 47) c87_57 (by rw [h35]; decide) rfl ?_
                refine al0 c87_104 ?_
                refine al1 c87_105 ?_
                obtain ⟨⟨ov36, I37, J38⟩, e39, h⟩ := pm_bd_sp h
                dsimp only at h
                refine cz2 q87_106 (μ1 := (I37, J38, P, pm_T0, e)) (d91 hw (by first | rfl | assumption | decide) e39) rfl ?_
                refine r_go (t := 138) c87_109 rfl ?_
                refine al1 c87_138 ?_
                refine r_bi c87_139 kB59 ?_
                obtain ⟨⟨ov40, I41, J42⟩, e43, h⟩ := pm_bd_sp h
                dsimp only at h
                refine cz2 q87_141 (μ1 := (I41, J42, P, pm_T0, e)) (d135 hw e43) rfl ?_
                cases h
                exact r_rv c87_144 rt87 rfl
              · rw [if_neg h35] at h
                by_cases h44 : ov1 = 3
                · rw [if_pos h44] at h
                  refine r_ts (t := 112) (o := 55) c87_57 (by rw [h44]; decide) rfl ?_
                  refine al0 c87_112 ?_
                  refine al1 c87_113 ?_
                  refine r_ic c87_114 kI0 ?_
                  refine r_si c87_115 kS400 ?_
                  obtain ⟨⟨ov45, I46, J47⟩, e48, h⟩ := pm_bd_sp h
                  dsimp only at h
                  refine cv3 q87_118 (v := .int ov45) (μ1 := (I46, J47, P, pm_T0, e)) (d134 hw e48) rfl ?_
                  refine w_pi p87_121 (by first | rfl | assumption) rfl ?_
                  rw [pm_lt_eq] at h
                  generalize pm_w I46 a0 9 ov45 = I49 at h ⊢
                  refine r_go (t := 138) c87_124 rfl ?_
                  refine al1 c87_138 ?_
                  refine r_bi c87_139 kB59 ?_
                  obtain ⟨⟨ov50, I51, J52⟩, e53, h⟩ := pm_bd_sp h
                  dsimp only at h
                  refine cz2 q87_141 (μ1 := (I51, J52, P, pm_T0, e)) (d135 hw e53) rfl ?_
                  cases h
                  exact r_rv c87_144 rt87 rfl
                · rw [if_neg h44] at h
                  refine r_ts (t := 127) (o := 70) c87_57 (pm_tsd ov1 [0, 1, 2, 3] (by decide) (by intro v hv; simp only [List.mem_cons, List.not_mem_nil, or_false] at hv; rcases hv with rfl | rfl | rfl | rfl <;> assumption)) rfl ?_
                  refine al0 c87_127 ?_
                  refine al1 c87_128 ?_
                  refine r_ic c87_129 kI0 ?_
                  refine r_bi c87_130 kB20 ?_
                  obtain ⟨⟨ov54, I55, J56⟩, e57, h⟩ := pm_bd_sp h
                  dsimp only at h
                  refine cv3 q87_132 (v := .int ov54) (μ1 := (I55, J56, P, pm_T0, e)) (d134 hw e57) rfl ?_
                  refine w_pi p87_135 (by first | rfl | assumption) rfl ?_
                  rw [pm_lt_eq] at h
                  generalize pm_w I55 a0 10 ov54 = I58 at h ⊢
                  refine al1 c87_138 ?_
                  refine r_bi c87_139 kB59 ?_
                  obtain ⟨⟨ov59, I60, J61⟩, e62, h⟩ := pm_bd_sp h
                  dsimp only at h
                  refine cz2 q87_141 (μ1 := (I60, J61, P, pm_T0, e)) (d135 hw e62) rfl ?_
                  cases h
                  exact r_rv c87_144 rt87 rfl
        · rw [if_pos h12] at h
          refine al0 c87_38 ?_
          refine r_gi g87_39 (by first | rfl | assumption) rfl ?_
          refine r_ic c87_42 kI5 ?_
          refine r_iclt (t := 52) c87_43 rfl (fun h63 => ?_) (fun h63 => ?_)
          · rw [if_pos h63] at h
            refine al1 c87_52 ?_
            obtain ⟨⟨ov64, I65, J66⟩, e67, h⟩ := pm_bd_sp h
            dsimp only at h
            refine cz1 q87_53 (μ1 := (I65, J66, P, pm_T0, e)) (d128 hw e67) rfl ?_
            refine il3 c87_56 ?_
            by_cases h68 : ov1 = 0
            · rw [if_pos h68] at h
              refine r_ts (t := 88) (o := 31) c87_57 (by rw [h68]; decide) rfl ?_
              refine al0 c87_88 ?_
              refine al1 c87_89 ?_
              obtain ⟨⟨ov69, I70, J71⟩, e72, h⟩ := pm_bd_sp h
              dsimp only at h
              refine cz2 q87_90 (μ1 := (I70, J71, P, pm_T0, e)) (d89 hw (by first | rfl | assumption | decide) e72) rfl ?_
              refine r_go (t := 138) c87_93 rfl ?_
              refine al1 c87_138 ?_
              refine r_bi c87_139 kB59 ?_
              obtain ⟨⟨ov73, I74, J75⟩, e76, h⟩ := pm_bd_sp h
              dsimp only at h
              refine cz2 q87_141 (μ1 := (I74, J75, P, pm_T0, e)) (d135 hw e76) rfl ?_
              cases h
              exact r_rv c87_144 rt87 rfl
            · rw [if_neg h68] at h
              by_cases h77 : ov1 = 1
              · rw [if_pos h77] at h
                refine r_ts (t := 96) (o := 39) c87_57 (by rw [h77]; decide) rfl ?_
                refine al0 c87_96 ?_
                refine al1 c87_97 ?_
                obtain ⟨⟨ov78, I79, J80⟩, e81, h⟩ := pm_bd_sp h
                dsimp only at h
                refine cz2 q87_98 (μ1 := (I79, J80, P, pm_T0, e)) (d90 hw (by first | rfl | assumption | decide) e81) rfl ?_
                refine r_go (t := 138) c87_101 rfl ?_
                refine al1 c87_138 ?_
                refine r_bi c87_139 kB59 ?_
                obtain ⟨⟨ov82, I83, J84⟩, e85, h⟩ := pm_bd_sp h
                dsimp only at h
                refine cz2 q87_141 (μ1 := (I83, J84, P, pm_T0, e)) (d135 hw e85) rfl ?_
                cases h
                exact r_rv c87_144 rt87 rfl
              · rw [if_neg h77] at h
                by_cases h86 : ov1 = 2
                · rw [if_pos h86] at h
                  refine r_ts (t := 104) (o := 47) c87_57 (by rw [h86]; decide) rfl ?_
                  refine al0 c87_104 ?_
                  refine al1 c87_105 ?_
                  obtain ⟨⟨ov87, I88, J89⟩, e90, h⟩ := pm_bd_sp h
                  dsimp only at h
                  refine cz2 q87_106 (μ1 := (I88, J89, P, pm_T0, e)) (d91 hw (by first | rfl | assumption | decide) e90) rfl ?_
                  refine r_go (t := 138) c87_109 rfl ?_
                  refine al1 c87_138 ?_
                  refine r_bi c87_139 kB59 ?_
                  obtain ⟨⟨ov91, I92, J93⟩, e94, h⟩ := pm_bd_sp h
                  dsimp only at h
                  refine cz2 q87_141 (μ1 := (I92, J93, P, pm_T0, e)) (d135 hw e94) rfl ?_
                  cases h
                  exact r_rv c87_144 rt87 rfl
                · rw [if_neg h86] at h
                  by_cases h95 : ov1 = 3
                  · rw [if_pos h95] at h
                    refine r_ts (t := 112) (o := 55) c87_57 (by rw [h95]; decide) rfl ?_
                    refine al0 c87_112 ?_
                    refine al1 c87_113 ?_
                    refine r_ic c87_114 kI0 ?_
                    refine r_si c87_115 kS400 ?_
                    obtain ⟨⟨ov96, I97, J98⟩, e99, h⟩ := pm_bd_sp h
                    dsimp only at h
                    refine cv3 q87_118 (v := .int ov96) (μ1 := (I97, J98, P, pm_T0, e)) (d134 hw e99) rfl ?_
                    refine w_pi p87_121 (by first | rfl | assumption) rfl ?_
                    rw [pm_lt_eq] at h
                    generalize pm_w I97 a0 9 ov96 = I100 at h ⊢
                    refine r_go (t := 138) c87_124 rfl ?_
                    refine al1 c87_138 ?_
                    refine r_bi c87_139 kB59 ?_
                    obtain ⟨⟨ov101, I102, J103⟩, e104, h⟩ := pm_bd_sp h
                    dsimp only at h
                    refine cz2 q87_141 (μ1 := (I102, J103, P, pm_T0, e)) (d135 hw e104) rfl ?_
                    cases h
                    exact r_rv c87_144 rt87 rfl
                  · rw [if_neg h95] at h
                    refine r_ts (t := 127) (o := 70) c87_57 (pm_tsd ov1 [0, 1, 2, 3] (by decide) (by intro v hv; simp only [List.mem_cons, List.not_mem_nil, or_false] at hv; rcases hv with rfl | rfl | rfl | rfl <;> assumption)) rfl ?_
                    refine al0 c87_127 ?_
                    refine al1 c87_128 ?_
                    refine r_ic c87_129 kI0 ?_
                    refine r_bi c87_130 kB20 ?_
                    obtain ⟨⟨ov105, I106, J107⟩, e108, h⟩ := pm_bd_sp h
                    dsimp only at h
                    refine cv3 q87_132 (v := .int ov105) (μ1 := (I106, J107, P, pm_T0, e)) (d134 hw e108) rfl ?_
                    refine w_pi p87_135 (by first | rfl | assumption) rfl ?_
                    rw [pm_lt_eq] at h
                    generalize pm_w I106 a0 10 ov105 = I109 at h ⊢
                    refine al1 c87_138 ?_
                    refine r_bi c87_139 kB59 ?_
                    obtain ⟨⟨ov110, I111, J112⟩, e113, h⟩ := pm_bd_sp h
                    dsimp only at h
                    refine cz2 q87_141 (μ1 := (I111, J112, P, pm_T0, e)) (d135 hw e113) rfl ?_
                    cases h
                    exact r_rv c87_144 rt87 rfl
          · rw [if_neg (Int.not_lt.mpr h63)] at h
            refine al1 c87_46 ?_
            refine r_ic c87_47 kI3 ?_
            obtain ⟨⟨ov114, I115, J116⟩, e117, h⟩ := pm_bd_sp h
            dsimp only at h
            refine cz2 q87_48 (μ1 := (I115, J116, P, pm_T0, e)) (d133 hw e117) rfl ?_
            cases h
            exact r_rv c87_51 rt87 rfl
      · rw [if_pos h11] at h
        refine al0 c87_24 ?_
        refine r_gi g87_25 (by first | rfl | assumption) rfl ?_
        refine r_bi c87_28 kB8 ?_
        refine r_icge (t := 46) c87_30 rfl (fun h118 => ?_) (fun h118 => ?_)
        · rw [if_neg (Int.not_lt.mpr h118)] at h
          refine al1 c87_46 ?_
          refine r_ic c87_47 kI3 ?_
          obtain ⟨⟨ov119, I120, J121⟩, e122, h⟩ := pm_bd_sp h
          dsimp only at h
          refine cz2 q87_48 (μ1 := (I120, J121, P, pm_T0, e)) (d133 hw e122) rfl ?_
          cases h
          exact r_rv c87_51 rt87 rfl
        · rw [if_pos h118] at h
          refine il3 c87_33 ?_
          refine r_ic c87_34 kI1 ?_
          refine r_icne (t := 52) c87_35 rfl (fun h123 => ?_) (fun h123 => ?_)
          · rw [if_neg h123] at h
            refine al1 c87_52 ?_
            obtain ⟨⟨ov124, I125, J126⟩, e127, h⟩ := pm_bd_sp h
            dsimp only at h
            refine cz1 q87_53 (μ1 := (I125, J126, P, pm_T0, e)) (d128 hw e127) rfl ?_
            refine il3 c87_56 ?_
            by_cases h128 : ov1 = 0
            · rw [if_pos h128] at h
              refine r_ts (t := 88) (o := 31) c87_57 (by rw [h128]; decide) rfl ?_
              refine al0 c87_88 ?_
              refine al1 c87_89 ?_
              obtain ⟨⟨ov129, I130, J131⟩, e132, h⟩ := pm_bd_sp h
              dsimp only at h
              refine cz2 q87_90 (μ1 := (I130, J131, P, pm_T0, e)) (d89 hw (by first | rfl | assumption | decide) e132) rfl ?_
              refine r_go (t := 138) c87_93 rfl ?_
              refine al1 c87_138 ?_
              refine r_bi c87_139 kB59 ?_
              obtain ⟨⟨ov133, I134, J135⟩, e136, h⟩ := pm_bd_sp h
              dsimp only at h
              refine cz2 q87_141 (μ1 := (I134, J135, P, pm_T0, e)) (d135 hw e136) rfl ?_
              cases h
              exact r_rv c87_144 rt87 rfl
            · rw [if_neg h128] at h
              by_cases h137 : ov1 = 1
              · rw [if_pos h137] at h
                refine r_ts (t := 96) (o := 39) c87_57 (by rw [h137]; decide) rfl ?_
                refine al0 c87_96 ?_
                refine al1 c87_97 ?_
                obtain ⟨⟨ov138, I139, J140⟩, e141, h⟩ := pm_bd_sp h
                dsimp only at h
                refine cz2 q87_98 (μ1 := (I139, J140, P, pm_T0, e)) (d90 hw (by first | rfl | assumption | decide) e141) rfl ?_
                refine r_go (t := 138) c87_101 rfl ?_
                refine al1 c87_138 ?_
                refine r_bi c87_139 kB59 ?_
                obtain ⟨⟨ov142, I143, J144⟩, e145, h⟩ := pm_bd_sp h
                dsimp only at h
                refine cz2 q87_141 (μ1 := (I143, J144, P, pm_T0, e)) (d135 hw e145) rfl ?_
                cases h
                exact r_rv c87_144 rt87 rfl
              · rw [if_neg h137] at h
                by_cases h146 : ov1 = 2
                · rw [if_pos h146] at h
                  refine r_ts (t := 104) (o := 47) c87_57 (by rw [h146]; decide) rfl ?_
                  refine al0 c87_104 ?_
                  refine al1 c87_105 ?_
                  obtain ⟨⟨ov147, I148, J149⟩, e150, h⟩ := pm_bd_sp h
                  dsimp only at h
                  refine cz2 q87_106 (μ1 := (I148, J149, P, pm_T0, e)) (d91 hw (by first | rfl | assumption | decide) e150) rfl ?_
                  refine r_go (t := 138) c87_109 rfl ?_
                  refine al1 c87_138 ?_
                  refine r_bi c87_139 kB59 ?_
                  obtain ⟨⟨ov151, I152, J153⟩, e154, h⟩ := pm_bd_sp h
                  dsimp only at h
                  refine cz2 q87_141 (μ1 := (I152, J153, P, pm_T0, e)) (d135 hw e154) rfl ?_
                  cases h
                  exact r_rv c87_144 rt87 rfl
                · rw [if_neg h146] at h
                  by_cases h155 : ov1 = 3
                  · rw [if_pos h155] at h
                    refine r_ts (t := 112) (o := 55) c87_57 (by rw [h155]; decide) rfl ?_
                    refine al0 c87_112 ?_
                    refine al1 c87_113 ?_
                    refine r_ic c87_114 kI0 ?_
                    refine r_si c87_115 kS400 ?_
                    obtain ⟨⟨ov156, I157, J158⟩, e159, h⟩ := pm_bd_sp h
                    dsimp only at h
                    refine cv3 q87_118 (v := .int ov156) (μ1 := (I157, J158, P, pm_T0, e)) (d134 hw e159) rfl ?_
                    refine w_pi p87_121 (by first | rfl | assumption) rfl ?_
                    rw [pm_lt_eq] at h
                    generalize pm_w I157 a0 9 ov156 = I160 at h ⊢
                    refine r_go (t := 138) c87_124 rfl ?_
                    refine al1 c87_138 ?_
                    refine r_bi c87_139 kB59 ?_
                    obtain ⟨⟨ov161, I162, J163⟩, e164, h⟩ := pm_bd_sp h
                    dsimp only at h
                    refine cz2 q87_141 (μ1 := (I162, J163, P, pm_T0, e)) (d135 hw e164) rfl ?_
                    cases h
                    exact r_rv c87_144 rt87 rfl
                  · rw [if_neg h155] at h
                    refine r_ts (t := 127) (o := 70) c87_57 (pm_tsd ov1 [0, 1, 2, 3] (by decide) (by intro v hv; simp only [List.mem_cons, List.not_mem_nil, or_false] at hv; rcases hv with rfl | rfl | rfl | rfl <;> assumption)) rfl ?_
                    refine al0 c87_127 ?_
                    refine al1 c87_128 ?_
                    refine r_ic c87_129 kI0 ?_
                    refine r_bi c87_130 kB20 ?_
                    obtain ⟨⟨ov165, I166, J167⟩, e168, h⟩ := pm_bd_sp h
                    dsimp only at h
                    refine cv3 q87_132 (v := .int ov165) (μ1 := (I166, J167, P, pm_T0, e)) (d134 hw e168) rfl ?_
                    refine w_pi p87_135 (by first | rfl | assumption) rfl ?_
                    rw [pm_lt_eq] at h
                    generalize pm_w I166 a0 10 ov165 = I169 at h ⊢
                    refine al1 c87_138 ?_
                    refine r_bi c87_139 kB59 ?_
                    obtain ⟨⟨ov170, I171, J172⟩, e173, h⟩ := pm_bd_sp h
                    dsimp only at h
                    refine cz2 q87_141 (μ1 := (I171, J172, P, pm_T0, e)) (d135 hw e173) rfl ?_
                    cases h
                    exact r_rv c87_144 rt87 rfl
          · rw [if_pos h123] at h
            refine al0 c87_38 ?_
            refine r_gi g87_39 (by first | rfl | assumption) rfl ?_
            refine r_ic c87_42 kI5 ?_
            refine r_iclt (t := 52) c87_43 rfl (fun h174 => ?_) (fun h174 => ?_)
            · rw [if_pos h174] at h
              refine al1 c87_52 ?_
              obtain ⟨⟨ov175, I176, J177⟩, e178, h⟩ := pm_bd_sp h
              dsimp only at h
              refine cz1 q87_53 (μ1 := (I176, J177, P, pm_T0, e)) (d128 hw e178) rfl ?_
              refine il3 c87_56 ?_
              by_cases h179 : ov1 = 0
              · rw [if_pos h179] at h
                refine r_ts (t := 88) (o := 31) c87_57 (by rw [h179]; decide) rfl ?_
                refine al0 c87_88 ?_
                refine al1 c87_89 ?_
                obtain ⟨⟨ov180, I181, J182⟩, e183, h⟩ := pm_bd_sp h
                dsimp only at h
                refine cz2 q87_90 (μ1 := (I181, J182, P, pm_T0, e)) (d89 hw (by first | rfl | assumption | decide) e183) rfl ?_
                refine r_go (t := 138) c87_93 rfl ?_
                refine al1 c87_138 ?_
                refine r_bi c87_139 kB59 ?_
                obtain ⟨⟨ov184, I185, J186⟩, e187, h⟩ := pm_bd_sp h
                dsimp only at h
                refine cz2 q87_141 (μ1 := (I185, J186, P, pm_T0, e)) (d135 hw e187) rfl ?_
                cases h
                exact r_rv c87_144 rt87 rfl
              · rw [if_neg h179] at h
                by_cases h188 : ov1 = 1
                · rw [if_pos h188] at h
                  refine r_ts (t := 96) (o := 39) c87_57 (by rw [h188]; decide) rfl ?_
                  refine al0 c87_96 ?_
                  refine al1 c87_97 ?_
                  obtain ⟨⟨ov189, I190, J191⟩, e192, h⟩ := pm_bd_sp h
                  dsimp only at h
                  refine cz2 q87_98 (μ1 := (I190, J191, P, pm_T0, e)) (d90 hw (by first | rfl | assumption | decide) e192) rfl ?_
                  refine r_go (t := 138) c87_101 rfl ?_
                  refine al1 c87_138 ?_
                  refine r_bi c87_139 kB59 ?_
                  obtain ⟨⟨ov193, I194, J195⟩, e196, h⟩ := pm_bd_sp h
                  dsimp only at h
                  refine cz2 q87_141 (μ1 := (I194, J195, P, pm_T0, e)) (d135 hw e196) rfl ?_
                  cases h
                  exact r_rv c87_144 rt87 rfl
                · rw [if_neg h188] at h
                  by_cases h197 : ov1 = 2
                  · rw [if_pos h197] at h
                    refine r_ts (t := 104) (o := 47) c87_57 (by rw [h197]; decide) rfl ?_
                    refine al0 c87_104 ?_
                    refine al1 c87_105 ?_
                    obtain ⟨⟨ov198, I199, J200⟩, e201, h⟩ := pm_bd_sp h
                    dsimp only at h
                    refine cz2 q87_106 (μ1 := (I199, J200, P, pm_T0, e)) (d91 hw (by first | rfl | assumption | decide) e201) rfl ?_
                    refine r_go (t := 138) c87_109 rfl ?_
                    refine al1 c87_138 ?_
                    refine r_bi c87_139 kB59 ?_
                    obtain ⟨⟨ov202, I203, J204⟩, e205, h⟩ := pm_bd_sp h
                    dsimp only at h
                    refine cz2 q87_141 (μ1 := (I203, J204, P, pm_T0, e)) (d135 hw e205) rfl ?_
                    cases h
                    exact r_rv c87_144 rt87 rfl
                  · rw [if_neg h197] at h
                    by_cases h206 : ov1 = 3
                    · rw [if_pos h206] at h
                      refine r_ts (t := 112) (o := 55) c87_57 (by rw [h206]; decide) rfl ?_
                      refine al0 c87_112 ?_
                      refine al1 c87_113 ?_
                      refine r_ic c87_114 kI0 ?_
                      refine r_si c87_115 kS400 ?_
                      obtain ⟨⟨ov207, I208, J209⟩, e210, h⟩ := pm_bd_sp h
                      dsimp only at h
                      refine cv3 q87_118 (v := .int ov207) (μ1 := (I208, J209, P, pm_T0, e)) (d134 hw e210) rfl ?_
                      refine w_pi p87_121 (by first | rfl | assumption) rfl ?_
                      rw [pm_lt_eq] at h
                      generalize pm_w I208 a0 9 ov207 = I211 at h ⊢
                      refine r_go (t := 138) c87_124 rfl ?_
                      refine al1 c87_138 ?_
                      refine r_bi c87_139 kB59 ?_
                      obtain ⟨⟨ov212, I213, J214⟩, e215, h⟩ := pm_bd_sp h
                      dsimp only at h
                      refine cz2 q87_141 (μ1 := (I213, J214, P, pm_T0, e)) (d135 hw e215) rfl ?_
                      cases h
                      exact r_rv c87_144 rt87 rfl
                    · rw [if_neg h206] at h
                      refine r_ts (t := 127) (o := 70) c87_57 (pm_tsd ov1 [0, 1, 2, 3] (by decide) (by intro v hv; simp only [List.mem_cons, List.not_mem_nil, or_false] at hv; rcases hv with rfl | rfl | rfl | rfl <;> assumption)) rfl ?_
                      refine al0 c87_127 ?_
                      refine al1 c87_128 ?_
                      refine r_ic c87_129 kI0 ?_
                      refine r_bi c87_130 kB20 ?_
                      obtain ⟨⟨ov216, I217, J218⟩, e219, h⟩ := pm_bd_sp h
                      dsimp only at h
                      refine cv3 q87_132 (v := .int ov216) (μ1 := (I217, J218, P, pm_T0, e)) (d134 hw e219) rfl ?_
                      refine w_pi p87_135 (by first | rfl | assumption) rfl ?_
                      rw [pm_lt_eq] at h
                      generalize pm_w I217 a0 10 ov216 = I220 at h ⊢
                      refine al1 c87_138 ?_
                      refine r_bi c87_139 kB59 ?_
                      obtain ⟨⟨ov221, I222, J223⟩, e224, h⟩ := pm_bd_sp h
                      dsimp only at h
                      refine cz2 q87_141 (μ1 := (I222, J223, P, pm_T0, e)) (d135 hw e224) rfl ?_
                      cases h
                      exact r_rv c87_144 rt87 rfl
            · rw [if_neg (Int.not_lt.mpr h174)] at h
              refine al1 c87_46 ?_
              refine r_ic c87_47 kI3 ?_
              obtain ⟨⟨ov225, I226, J227⟩, e228, h⟩ := pm_bd_sp h
              dsimp only at h
              refine cz2 q87_48 (μ1 := (I226, J227, P, pm_T0, e)) (d133 hw e228) rfl ?_
              cases h
              exact r_rv c87_51 rt87 rfl
  · rw [if_pos h5] at h
    refine al1 c87_10 ?_
    refine r_ic c87_11 kI1 ?_
    obtain ⟨⟨ov229, I230, J231⟩, e232, h⟩ := pm_bd_sp h
    dsimp only at h
    refine cz2 q87_12 (μ1 := (I230, J231, P, pm_T0, e)) (d133 hw e232) rfl ?_
    cases h
    exact r_rv c87_15 rt87 rfl
def f86_24 (a0 : Nat) : Nat → Int32 → (Nat → Nat → Int32) → (Nat → Nat → Int64) → Option (Unit × (Nat → Nat → Int32) × (Nat → Nat → Int64))
  | 0, _, _, _ => none
  | fu + 1, y2, I, J => (if (60 : Int32).toInt < y2.toInt then some ((), I, J) else (if (v131  I) = true then (if y2 = 60 then (f87 a0 1 I J).bind (fun (ov8, I9, J10) => f86_24 a0 fu (y2 + 1) I9 J10) else (f87 a0 0 I J).bind (fun (ov4, I5, J6) => f86_24 a0 fu (y2 + 1) I5 J6)) else some ((), I, J)))
def f86 (a0 : Nat) (I : Nat → Nat → Int32) (J : Nat → Nat → Int64) : Option (Unit × (Nat → Nat → Int32) × (Nat → Nat → Int64)) := pm_lt (pm_w I a0 7 0) (fun I1 => pm_lt (pm_w I1 a0 8 0) (fun I2 => pm_lt (pm_w I2 a0 9 60) (fun I3 => pm_lt (pm_w I3 a0 10 8) (fun I4 => f86_24 a0 pm_FU 0 I4 J))))
theorem d86_24 {X : (Nat → Int32) × Nat} {d : Nat} {P : Nat → Nat → Value} {e r k r2 k2 : Nat} {a0 : Nat} (hw : pm_W P r k r2 k2) (hy0 : pm_rgT P a0) : ∀ (fu : Nat) {y2 : Int32} {I : Nat → Nat → Int32} {J : Nat → Nat → Int64} {q : Unit × (Nat → Nat → Int32) × (Nat → Nat → Int64)} (h : f86_24 a0 fu y2 I J = some q), pm_Fx X (d + 8) 86 24 [.ref a0, .ref 1, .int y2] [] (I, J, P, pm_T0, e) (.inl none) (q.2.1, q.2.2, P, pm_T0, e) := by
  obtain ⟨hp, hw1, hw2, hw3, hw4, hw5, hw6, hw7, hw8, hw9, hw10, hw11⟩ := id hw
  have hwa := hw5.1
  have hwb := hw6.1
  have hwc := hw7.1
  have hwd := hw8.1
  obtain ⟨t0, ⟨t1, t2, t3, t4, t5, t6, t7⟩, u0, u1, u2, u3, u4, u5, u6⟩ := id hy0
  intro fu
  induction fu with
  | zero => intro y2 I J q h; cases h
  | succ fu ih =>
    intro y2 I J q h
    rw [f86_24] at h
    refine il2 c86_24 ?_
    refine r_bi c86_25 kB60 ?_
    refine r_icgt (t := 59) c86_27 rfl (fun h1 => ?_) (fun h1 => ?_)
    · rw [if_pos h1] at h
      cases h
      exact r_rv c86_59 rt86 rfl
    · rw [if_neg (Int.not_lt.mpr h1)] at h
      refine al1 c86_30 ?_
      refine cv1 q86_31 (d131 hw rfl) rfl ?_
      refine r_ifeq (t := 59) c86_34 rfl (fun h2 => ?_) (fun h2 => ?_)
      · rw [if_neg (pm_bf h2)] at h
        cases h
        exact r_rv c86_59 rt86 rfl
      · rw [if_pos (pm_bt h2)] at h
        refine al0 c86_37 ?_
        refine al1 c86_38 ?_
        refine il2 c86_39 ?_
        refine r_bi c86_40 kB60 ?_
        refine r_icne (t := 49) c86_42 rfl (fun h3 => ?_) (fun h3 => ?_)
        · rw [if_neg h3] at h
          refine r_ic c86_49 kI0 ?_
          obtain ⟨⟨ov4, I5, J6⟩, e7, h⟩ := pm_bd_sp h
          dsimp only at h
          refine cz3 q86_50 (μ1 := (I5, J6, P, pm_T0, e)) (d87 hw (by first | rfl | assumption | decide) e7) rfl ?_
          refine ii2 c86_53 kI1 rfl ?_
          refine r_go (t := 24) c86_56 rfl ?_
          exact ih h
        · rw [if_pos h3] at h
          refine r_ic c86_45 kI1 ?_
          refine r_go (t := 50) c86_46 rfl ?_
          obtain ⟨⟨ov8, I9, J10⟩, e11, h⟩ := pm_bd_sp h
          dsimp only at h
          refine cz3 q86_50 (μ1 := (I9, J10, P, pm_T0, e)) (d87 hw (by first | rfl | assumption | decide) e11) rfl ?_
          refine ii2 c86_53 kI1 rfl ?_
          refine r_go (t := 24) c86_56 rfl ?_
          exact ih h
theorem d86 {X : (Nat → Int32) × Nat} {d : Nat} {I : Nat → Nat → Int32} {J : Nat → Nat → Int64} {P : Nat → Nat → Value} {e r k r2 k2 : Nat} {a0 : Nat} {q : Unit × (Nat → Nat → Int32) × (Nat → Nat → Int64)} (hw : pm_W P r k r2 k2) (hy0 : pm_rgT P a0) (h : f86 a0 I J = some q) : pm_Fn X (d + 8) 86 1 [.ref a0, .ref 1] (I, J, P, pm_T0, e) (.inl none) (q.2.1, q.2.2, P, pm_T0, e) := by
  obtain ⟨hp, hw1, hw2, hw3, hw4, hw5, hw6, hw7, hw8, hw9, hw10, hw11⟩ := id hw
  have hwa := hw5.1
  have hwb := hw6.1
  have hwc := hw7.1
  have hwd := hw8.1
  obtain ⟨t0, ⟨t1, t2, t3, t4, t5, t6, t7⟩, u0, u1, u2, u3, u4, u5, u6⟩ := id hy0
  unfold f86 at h
  refine fn_v rc86 (c := 5) (nf := 11) (by first | rfl | assumption) ml86 rfl rfl rfl rfl ?_
  refine al0 c86_0 ?_
  refine r_ic c86_1 kI0 ?_
  refine w_pi p86_2 (by first | rfl | assumption) rfl ?_
  rw [pm_lt_eq] at h
  generalize pm_w I a0 7 0 = I1 at h ⊢
  refine al0 c86_5 ?_
  refine r_ic c86_6 kI0 ?_
  refine w_pi p86_7 (by first | rfl | assumption) rfl ?_
  rw [pm_lt_eq] at h
  generalize pm_w I1 a0 8 0 = I2 at h ⊢
  refine al0 c86_10 ?_
  refine r_bi c86_11 kB60 ?_
  refine w_pi p86_13 (by first | rfl | assumption) rfl ?_
  rw [pm_lt_eq] at h
  generalize pm_w I2 a0 9 60 = I3 at h ⊢
  refine al0 c86_16 ?_
  refine r_bi c86_17 kB8 ?_
  refine w_pi p86_19 (by first | rfl | assumption) rfl ?_
  rw [pm_lt_eq] at h
  generalize pm_w I3 a0 10 8 = I4 at h ⊢
  refine r_ic c86_22 kI0 ?_
  refine is2 c86_23 rfl ?_
  exact d86_24 hw hy0 pm_FU h
def v95 (a0 : Nat) (x1 : Int32) (I : Nat → Nat → Int32) : Bool := (if x1.toInt < 0 then false else (if x1.toInt < (I a0 7).toInt then true else false))
theorem d95 {X : (Nat → Int32) × Nat} {d : Nat} {I : Nat → Nat → Int32} {J : Nat → Nat → Int64} {P : Nat → Nat → Value} {e r k r2 k2 : Nat} {a0 : Nat} {x1 : Int32} {q : Bool} (hw : pm_W P r k r2 k2) (hy0 : pm_rgT P a0) (h : v95 a0 x1 I = q) : pm_Fn X (d) 95 1 [.ref a0, .int x1] (I, J, P, pm_T0, e) (.inl (some (.int (pm_bi q)))) (I, J, P, pm_T0, e) := by
  obtain ⟨hp, hw1, hw2, hw3, hw4, hw5, hw6, hw7, hw8, hw9, hw10, hw11⟩ := id hw
  have hwa := hw5.1
  have hwb := hw6.1
  have hwc := hw7.1
  have hwd := hw8.1
  obtain ⟨t0, ⟨t1, t2, t3, t4, t5, t6, t7⟩, u0, u1, u2, u3, u4, u5, u6⟩ := id hy0
  unfold v95 at h
  refine fn_v rc95 (c := 5) (nf := 11) (by first | rfl | assumption) ml95 rfl rfl rfl rfl ?_
  refine il1 c95_0 ?_
  refine r_iflt (t := 16) c95_1 rfl (fun h1 => ?_) (fun h1 => ?_)
  · rw [if_pos h1] at h
    refine r_ic c95_16 kI0 ?_
    cases h
    exact r_rz c95_17 rt95 (by decide) rfl rfl
  · rw [if_neg (Int.not_lt.mpr h1)] at h
    refine il1 c95_4 ?_
    refine al0 c95_5 ?_
    refine r_gi g95_6 (by first | rfl | assumption) rfl ?_
    refine r_icge (t := 16) c95_9 rfl (fun h2 => ?_) (fun h2 => ?_)
    · rw [if_neg (Int.not_lt.mpr h2)] at h
      refine r_ic c95_16 kI0 ?_
      cases h
      exact r_rz c95_17 rt95 (by decide) rfl rfl
    · rw [if_pos h2] at h
      refine r_ic c95_12 kI1 ?_
      refine r_go (t := 17) c95_13 rfl ?_
      cases h
      exact r_rz c95_17 rt95 (by decide) rfl rfl
def v97 (a0 : Nat) (x1 : Int32) (I : Nat → Nat → Int32) : Bool := (if x1.toInt < 0 then false else (if x1.toInt < (I a0 8).toInt then true else false))
theorem d97 {X : (Nat → Int32) × Nat} {d : Nat} {I : Nat → Nat → Int32} {J : Nat → Nat → Int64} {P : Nat → Nat → Value} {e r k r2 k2 : Nat} {a0 : Nat} {x1 : Int32} {q : Bool} (hw : pm_W P r k r2 k2) (hy0 : pm_rgT P a0) (h : v97 a0 x1 I = q) : pm_Fn X (d) 97 1 [.ref a0, .int x1] (I, J, P, pm_T0, e) (.inl (some (.int (pm_bi q)))) (I, J, P, pm_T0, e) := by
  obtain ⟨hp, hw1, hw2, hw3, hw4, hw5, hw6, hw7, hw8, hw9, hw10, hw11⟩ := id hw
  have hwa := hw5.1
  have hwb := hw6.1
  have hwc := hw7.1
  have hwd := hw8.1
  obtain ⟨t0, ⟨t1, t2, t3, t4, t5, t6, t7⟩, u0, u1, u2, u3, u4, u5, u6⟩ := id hy0
  unfold v97 at h
  refine fn_v rc97 (c := 5) (nf := 11) (by first | rfl | assumption) ml97 rfl rfl rfl rfl ?_
  refine il1 c97_0 ?_
  refine r_iflt (t := 16) c97_1 rfl (fun h1 => ?_) (fun h1 => ?_)
  · rw [if_pos h1] at h
    refine r_ic c97_16 kI0 ?_
    cases h
    exact r_rz c97_17 rt97 (by decide) rfl rfl
  · rw [if_neg (Int.not_lt.mpr h1)] at h
    refine il1 c97_4 ?_
    refine al0 c97_5 ?_
    refine r_gi g97_6 (by first | rfl | assumption) rfl ?_
    refine r_icge (t := 16) c97_9 rfl (fun h2 => ?_) (fun h2 => ?_)
    · rw [if_neg (Int.not_lt.mpr h2)] at h
      refine r_ic c97_16 kI0 ?_
      cases h
      exact r_rz c97_17 rt97 (by decide) rfl rfl
    · rw [if_pos h2] at h
      refine r_ic c97_12 kI1 ?_
      refine r_go (t := 17) c97_13 rfl ?_
      cases h
      exact r_rz c97_17 rt97 (by decide) rfl rfl
def f113  (I : Nat → Nat → Int32) (J : Nat → Nat → Int64) : Option (Int32 × (Nat → Nat → Int32) × (Nat → Nat → Int64)) := (f132 32 I J).bind (fun (ov1, I2, J3) => (if ov1 = true then some (0, I2, J3) else (f132 34 I2 J3).bind (fun (ov6, I7, J8) => (if ov6 = true then some (1, I7, J8) else (f132 36 I7 J8).bind (fun (ov11, I12, J13) => (if ov11 = true then some (2, I12, J13) else (f132 38 I12 J13).bind (fun (ov16, I17, J18) => (if ov16 = true then some (3, I17, J18) else (f132 40 I17 J18).bind (fun (ov21, I22, J23) => (if ov21 = true then some (4, I22, J23) else (f132 42 I22 J23).bind (fun (ov26, I27, J28) => (if ov26 = true then some (5, I27, J28) else (f132 44 I27 J28).bind (fun (ov31, I32, J33) => (if ov31 = true then some (6, I32, J33) else (f132 30 I32 J33).bind (fun (ov36, I37, J38) => (if ov36 = true then some (7, I37, J38) else (f132 46 I37 J38).bind (fun (ov41, I42, J43) => (if ov41 = true then some (8, I42, J43) else some ((-1), I42, J43)))))))))))))))))))
theorem d113 {X : (Nat → Int32) × Nat} {d : Nat} {I : Nat → Nat → Int32} {J : Nat → Nat → Int64} {P : Nat → Nat → Value} {e r k r2 k2 : Nat}  {q : Int32 × (Nat → Nat → Int32) × (Nat → Nat → Int64)} (hw : pm_W P r k r2 k2)  (h : f113  I J = some q) : pm_Fn X (d + 6) 113 0 [.ref 1] (I, J, P, pm_T0, e) (.inl (some (.int q.1))) (q.2.1, q.2.2, P, pm_T0, e) := by
  obtain ⟨hp, hw1, hw2, hw3, hw4, hw5, hw6, hw7, hw8, hw9, hw10, hw11⟩ := id hw
  have hwa := hw5.1
  have hwb := hw6.1
  have hwc := hw7.1
  have hwd := hw8.1
  unfold f113 at h
  refine fn_s ml113 rfl rfl rfl ?_
  refine al0 c113_0 ?_
  refine r_ks v113_1 ?_
  obtain ⟨⟨ov1, I2, J3⟩, e4, h⟩ := pm_bd_sp h
  dsimp only at h
  refine cv2 q113_3 (v := .int (pm_bi ov1)) (μ1 := (I2, J3, P, pm_T0, e)) (d132 hw (by first | rfl | assumption | decide) e4) rfl ?_
  refine r_ifeq (t := 11) c113_6 rfl (fun h5 => ?_) (fun h5 => ?_)
  · rw [if_neg (pm_bf h5)] at h
    refine al0 c113_11 ?_
    refine r_ks v113_12 ?_
    obtain ⟨⟨ov6, I7, J8⟩, e9, h⟩ := pm_bd_sp h
    dsimp only at h
    refine cv2 q113_14 (v := .int (pm_bi ov6)) (μ1 := (I7, J8, P, pm_T0, e)) (d132 hw (by first | rfl | assumption | decide) e9) rfl ?_
    refine r_ifeq (t := 22) c113_17 rfl (fun h10 => ?_) (fun h10 => ?_)
    · rw [if_neg (pm_bf h10)] at h
      refine al0 c113_22 ?_
      refine r_ks v113_23 ?_
      obtain ⟨⟨ov11, I12, J13⟩, e14, h⟩ := pm_bd_sp h
      dsimp only at h
      refine cv2 q113_25 (v := .int (pm_bi ov11)) (μ1 := (I12, J13, P, pm_T0, e)) (d132 hw (by first | rfl | assumption | decide) e14) rfl ?_
      refine r_ifeq (t := 33) c113_28 rfl (fun h15 => ?_) (fun h15 => ?_)
      · rw [if_neg (pm_bf h15)] at h
        refine al0 c113_33 ?_
        refine r_ks v113_34 ?_
        obtain ⟨⟨ov16, I17, J18⟩, e19, h⟩ := pm_bd_sp h
        dsimp only at h
        refine cv2 q113_36 (v := .int (pm_bi ov16)) (μ1 := (I17, J18, P, pm_T0, e)) (d132 hw (by first | rfl | assumption | decide) e19) rfl ?_
        refine r_ifeq (t := 44) c113_39 rfl (fun h20 => ?_) (fun h20 => ?_)
        · rw [if_neg (pm_bf h20)] at h
          refine al0 c113_44 ?_
          refine r_ks v113_45 ?_
          obtain ⟨⟨ov21, I22, J23⟩, e24, h⟩ := pm_bd_sp h
          dsimp only at h
          refine cv2 q113_47 (v := .int (pm_bi ov21)) (μ1 := (I22, J23, P, pm_T0, e)) (d132 hw (by first | rfl | assumption | decide) e24) rfl ?_
          refine r_ifeq (t := 55) c113_50 rfl (fun h25 => ?_) (fun h25 => ?_)
          · rw [if_neg (pm_bf h25)] at h
            refine al0 c113_55 ?_
            refine r_ks v113_56 ?_
            obtain ⟨⟨ov26, I27, J28⟩, e29, h⟩ := pm_bd_sp h
            dsimp only at h
            refine cv2 q113_58 (v := .int (pm_bi ov26)) (μ1 := (I27, J28, P, pm_T0, e)) (d132 hw (by first | rfl | assumption | decide) e29) rfl ?_
            refine r_ifeq (t := 66) c113_61 rfl (fun h30 => ?_) (fun h30 => ?_)
            · rw [if_neg (pm_bf h30)] at h
              refine al0 c113_66 ?_
              refine r_ks v113_67 ?_
              obtain ⟨⟨ov31, I32, J33⟩, e34, h⟩ := pm_bd_sp h
              dsimp only at h
              refine cv2 q113_69 (v := .int (pm_bi ov31)) (μ1 := (I32, J33, P, pm_T0, e)) (d132 hw (by first | rfl | assumption | decide) e34) rfl ?_
              refine r_ifeq (t := 78) c113_72 rfl (fun h35 => ?_) (fun h35 => ?_)
              · rw [if_neg (pm_bf h35)] at h
                refine al0 c113_78 ?_
                refine r_ks v113_79 ?_
                obtain ⟨⟨ov36, I37, J38⟩, e39, h⟩ := pm_bd_sp h
                dsimp only at h
                refine cv2 q113_81 (v := .int (pm_bi ov36)) (μ1 := (I37, J38, P, pm_T0, e)) (d132 hw (by first | rfl | assumption | decide) e39) rfl ?_
                refine r_ifeq (t := 90) c113_84 rfl (fun h40 => ?_) (fun h40 => ?_)
                · rw [if_neg (pm_bf h40)] at h
                  refine al0 c113_90 ?_
                  refine r_ks v113_91 ?_
                  obtain ⟨⟨ov41, I42, J43⟩, e44, h⟩ := pm_bd_sp h
                  dsimp only at h
                  refine cv2 q113_93 (v := .int (pm_bi ov41)) (μ1 := (I42, J43, P, pm_T0, e)) (d132 hw (by first | rfl | assumption | decide) e44) rfl ?_
                  refine r_ifeq (t := 104) c113_96 rfl (fun h45 => ?_) (fun h45 => ?_)
                  · rw [if_neg (pm_bf h45)] at h
                    refine r_ic c113_104 kIm1 ?_
                    cases h
                    exact r_ri c113_105 rt113 rfl rfl
                  · rw [if_pos (pm_bt h45)] at h
                    refine r_bi c113_99 kB8 ?_
                    refine r_go (t := 105) c113_101 rfl ?_
                    cases h
                    exact r_ri c113_105 rt113 rfl rfl
                · rw [if_pos (pm_bt h40)] at h
                  refine r_bi c113_87 kB7 ?_
                  cases h
                  exact r_ri c113_89 rt113 rfl rfl
              · rw [if_pos (pm_bt h35)] at h
                refine r_bi c113_75 kB6 ?_
                cases h
                exact r_ri c113_77 rt113 rfl rfl
            · rw [if_pos (pm_bt h30)] at h
              refine r_ic c113_64 kI5 ?_
              cases h
              exact r_ri c113_65 rt113 rfl rfl
          · rw [if_pos (pm_bt h25)] at h
            refine r_ic c113_53 kI4 ?_
            cases h
            exact r_ri c113_54 rt113 rfl rfl
        · rw [if_pos (pm_bt h20)] at h
          refine r_ic c113_42 kI3 ?_
          cases h
          exact r_ri c113_43 rt113 rfl rfl
      · rw [if_pos (pm_bt h15)] at h
        refine r_ic c113_31 kI2 ?_
        cases h
        exact r_ri c113_32 rt113 rfl rfl
    · rw [if_pos (pm_bt h10)] at h
      refine r_ic c113_20 kI1 ?_
      cases h
      exact r_ri c113_21 rt113 rfl rfl
  · rw [if_pos (pm_bt h5)] at h
    refine r_ic c113_9 kI0 ?_
    cases h
    exact r_ri c113_10 rt113 rfl rfl
def f115 (a2 : Nat) (x3 : Int32) (I : Nat → Nat → Int32) (J : Nat → Nat → Int64) : Option (Unit × (Nat → Nat → Int32) × (Nat → Nat → Int64)) := (if (pm_at (I 98) 150 x3) = 0 then some ((), I, J) else (if (pm_at (I 98) 150 x3) = 7 then some ((), I, J) else (f134 0 ((I a2 7) - 1) I J).bind (fun (ov3, I4, J5) => pm_lt (pm_pw I4 99 150 x3 ov3) (fun I7 => (if (pm_at (I 98) 150 x3) = 1 then (f134 0 ((I7 a2 8) - 1) I7 J5).bind (fun (ov15, I16, J17) => pm_lt (pm_pw I16 100 150 x3 ov15) (fun I19 => some ((), I19, J17))) else (if (pm_at (I 98) 150 x3) = 2 then (f134 1 24 I7 J5).bind (fun (ov10, I11, J12) => pm_lt (pm_pw I11 100 150 x3 ov10) (fun I14 => some ((), I14, J12))) else some ((), I7, J5)))))))
theorem d115 {X : (Nat → Int32) × Nat} {d : Nat} {I : Nat → Nat → Int32} {J : Nat → Nat → Int64} {P : Nat → Nat → Value} {e r k r2 k2 : Nat} {a2 : Nat} {x3 : Int32} {q : Unit × (Nat → Nat → Int32) × (Nat → Nat → Int64)} (hw : pm_W P r k r2 k2) (hy0 : pm_rgT P a2) (h : f115 a2 x3 I J = some q) : pm_Fn X (d + 3) 115 1 [.ref 97, .ref 1, .ref a2, .int x3] (I, J, P, pm_T0, e) (.inl none) (q.2.1, q.2.2, P, pm_T0, e) := by
  obtain ⟨hp, hw1, hw2, hw3, hw4, hw5, hw6, hw7, hw8, hw9, hw10, hw11⟩ := id hw
  have hwa := hw5.1
  have hwb := hw6.1
  have hwc := hw7.1
  have hwd := hw8.1
  obtain ⟨t0, ⟨t1, t2, t3, t4, t5, t6, t7⟩, u0, u1, u2, u3, u4, u5, u6⟩ := id hy0
  unfold f115 at h
  refine fn_v rc115 (c := 7) (nf := 8) (by first | rfl | assumption) ml115 rfl rfl rfl rfl ?_
  refine al0 c115_0 ?_
  refine r_gr g115_1 rfl rfl (hp _ _ _ rfl) ?_
  refine il3 c115_4 ?_
  refine cv2 q115_5 (s160 (by first | rfl | assumption) (by first | decide | assumption)) rfl ?_
  refine is4 c115_8 rfl ?_
  refine il4 c115_10 ?_
  refine r_ifeq (t := 22) c115_12 rfl (fun h1 => ?_) (fun h1 => ?_)
  · rw [if_pos h1] at h
    cases h
    exact r_rv c115_22 rt115 rfl
  · rw [if_neg h1] at h
    refine il4 c115_15 ?_
    refine r_bi c115_17 kB7 ?_
    refine r_icne (t := 23) c115_19 rfl (fun h2 => ?_) (fun h2 => ?_)
    · rw [if_neg h2] at h
      refine al0 c115_23 ?_
      refine r_gr g115_24 rfl rfl (hp _ _ _ rfl) ?_
      refine il3 c115_27 ?_
      refine al1 c115_28 ?_
      refine r_ic c115_29 kI0 ?_
      refine al2 c115_30 ?_
      refine cv1 q115_31 (s81 (by first | rfl | assumption)) rfl ?_
      refine r_ic c115_34 kI1 ?_
      refine r_isub c115_35 ?_
      obtain ⟨⟨ov3, I4, J5⟩, e6, h⟩ := pm_bd_sp h
      dsimp only at h
      refine cv3 q115_36 (v := .int ov3) (μ1 := (I4, J5, P, pm_T0, e)) (d134 hw e6) rfl ?_
      refine cz3 q115_39 (t159 (by first | rfl | assumption) (by first | decide | assumption)) rfl ?_
      rw [pm_lt_eq] at h
      generalize pm_pw I4 99 150 x3 ov3 = I7 at h ⊢
      refine il4 c115_42 ?_
      refine r_ic c115_44 kI1 ?_
      refine r_icne (t := 70) c115_45 rfl (fun h8 => ?_) (fun h8 => ?_)
      · rw [if_neg h8] at h
        refine il4 c115_70 ?_
        refine r_ic c115_72 kI2 ?_
        refine r_icne (t := 91) c115_73 rfl (fun h9 => ?_) (fun h9 => ?_)
        · rw [if_neg h9] at h
          cases h
          exact r_rv c115_91 rt115 rfl
        · rw [if_pos h9] at h
          refine al0 c115_76 ?_
          refine r_gr g115_77 rfl rfl (hp _ _ _ rfl) ?_
          refine il3 c115_80 ?_
          refine al1 c115_81 ?_
          refine r_ic c115_82 kI1 ?_
          refine r_bi c115_83 kB24 ?_
          obtain ⟨⟨ov10, I11, J12⟩, e13, h⟩ := pm_bd_sp h
          dsimp only at h
          refine cv3 q115_85 (v := .int ov10) (μ1 := (I11, J12, P, pm_T0, e)) (d134 hw e13) rfl ?_
          refine cz3 q115_88 (t159 (by first | rfl | assumption) (by first | decide | assumption)) rfl ?_
          rw [pm_lt_eq] at h
          generalize pm_pw I11 100 150 x3 ov10 = I14 at h ⊢
          cases h
          exact r_rv c115_91 rt115 rfl
      · rw [if_pos h8] at h
        refine al0 c115_48 ?_
        refine r_gr g115_49 rfl rfl (hp _ _ _ rfl) ?_
        refine il3 c115_52 ?_
        refine al1 c115_53 ?_
        refine r_ic c115_54 kI0 ?_
        refine al2 c115_55 ?_
        refine cv1 q115_56 (s92 (by first | rfl | assumption)) rfl ?_
        refine r_ic c115_59 kI1 ?_
        refine r_isub c115_60 ?_
        obtain ⟨⟨ov15, I16, J17⟩, e18, h⟩ := pm_bd_sp h
        dsimp only at h
        refine cv3 q115_61 (v := .int ov15) (μ1 := (I16, J17, P, pm_T0, e)) (d134 hw e18) rfl ?_
        refine cz3 q115_64 (t159 (by first | rfl | assumption) (by first | decide | assumption)) rfl ?_
        rw [pm_lt_eq] at h
        generalize pm_pw I16 100 150 x3 ov15 = I19 at h ⊢
        refine r_go (t := 91) c115_67 rfl ?_
        cases h
        exact r_rv c115_91 rt115 rfl
    · rw [if_pos h2] at h
      cases h
      exact r_rv c115_22 rt115 rfl
def v138  (I : Nat → Nat → Int32) : Bool := (if (I 1 7) = 0 then false else true)
theorem d138 {X : (Nat → Int32) × Nat} {d : Nat} {I : Nat → Nat → Int32} {J : Nat → Nat → Int64} {P : Nat → Nat → Value} {e r k r2 k2 : Nat}  {q : Bool} (hw : pm_W P r k r2 k2)  (h : v138  I = q) : pm_Fn X (d) 138 1 [.ref 1] (I, J, P, pm_T0, e) (.inl (some (.int (pm_bi q)))) (I, J, P, pm_T0, e) := by
  obtain ⟨hp, hw1, hw2, hw3, hw4, hw5, hw6, hw7, hw8, hw9, hw10, hw11⟩ := id hw
  have hwa := hw5.1
  have hwb := hw6.1
  have hwc := hw7.1
  have hwd := hw8.1
  unfold v138 at h
  refine fn_v rc138 (c := 8) (nf := 9) (by first | rfl | assumption) ml138 rfl rfl rfl rfl ?_
  refine al0 c138_0 ?_
  refine r_gi g138_1 (by first | rfl | assumption) rfl ?_
  refine r_ifeq (t := 11) c138_4 rfl (fun h1 => ?_) (fun h1 => ?_)
  · rw [if_pos h1] at h
    refine r_ic c138_11 kI0 ?_
    cases h
    exact r_rz c138_12 rt138 (by decide) rfl rfl
  · rw [if_neg h1] at h
    refine r_ic c138_7 kI1 ?_
    refine r_go (t := 12) c138_8 rfl ?_
    cases h
    exact r_rz c138_12 rt138 (by decide) rfl rfl
def g112 (a2 : Nat) : Nat → Nat → Nat → Int32 → Int32 → (Nat → Nat → Int32) → (Nat → Nat → Int64) → Option (Unit × (Nat → Nat → Int32) × (Nat → Nat → Int64))
  | 0, _, _, _, _, _, _ => none
  | _ + 1, 0, _, _, _, _, _ => none
  | fu + 1, dep + 1, 0, x3, _, I, J => (f113  I J).bind (fun (ov1, I2, J3) => (if ov1 = (-1) then (f133 1 I2 J3).bind (fun (ov72, I73, J74) => some ((), I73, J74)) else (if ov1 = 8 then (if x3.toInt < (6 : Int32).toInt then (f128  I2 J3).bind (fun (ov38, I39, J40) => pm_lt (pm_w I39 97 4 ((I39 97 4) + 1)) (fun I42 => pm_lt (pm_pw I42 98 150 (I39 97 4) ov1) (fun I43 => (if ov1 = 8 then (f134 0 60 I43 J40).bind (fun (ov54, I55, J56) => pm_lt (pm_pw I55 100 150 (I39 97 4) ov54) (fun I58 => (g112 a2 fu dep 1 (x3 + 1) 0 I58 J56).bind (fun (ov59, I60, J61) => pm_lt (pm_pw I60 101 150 (I39 97 4) (I60 97 4)) (fun I63 => (f135 59 I63 J61).bind (fun (ov64, I65, J66) => some ((), I65, J66)))))) else (f115 a2 (I39 97 4) I43 J40).bind (fun (ov45, I46, J47) => pm_lt (pm_pw I46 101 150 (I39 97 4) (I46 97 4)) (fun I49 => (f135 59 I49 J47).bind (fun (ov50, I51, J52) => some ((), I51, J52)))))))) else (f133 3 I2 J3).bind (fun (ov68, I69, J70) => some ((), I69, J70))) else (f128  I2 J3).bind (fun (ov7, I8, J9) => pm_lt (pm_w I8 97 4 ((I8 97 4) + 1)) (fun I11 => pm_lt (pm_pw I11 98 150 (I8 97 4) ov1) (fun I12 => (if ov1 = 8 then (f134 0 60 I12 J9).bind (fun (ov23, I24, J25) => pm_lt (pm_pw I24 100 150 (I8 97 4) ov23) (fun I27 => (g112 a2 fu dep 1 (x3 + 1) 0 I27 J25).bind (fun (ov28, I29, J30) => pm_lt (pm_pw I29 101 150 (I8 97 4) (I29 97 4)) (fun I32 => (f135 59 I32 J30).bind (fun (ov33, I34, J35) => some ((), I34, J35)))))) else (f115 a2 (I8 97 4) I12 J9).bind (fun (ov14, I15, J16) => pm_lt (pm_pw I15 101 150 (I8 97 4) (I15 97 4)) (fun I18 => (f135 59 I18 J16).bind (fun (ov19, I20, J21) => some ((), I20, J21)))))))))))
  | fu + 1, dep + 1, 1, x3, _, I, J => (f135 91 I J).bind (fun (ov1, I2, J3) => g112 a2 fu (dep + 1) 2 x3 0 I2 J3)
  | fu + 1, dep + 1, _ + 2, y3, y4, I, J => (if y4.toInt < (150 : Int32).toInt then (if (v138  I) = true then (f135 93 I J).bind (fun (ov7, I8, J9) => some ((), I8, J9)) else (if (v136 93 I) = true then (f135 93 I J).bind (fun (ov12, I13, J14) => some ((), I13, J14)) else (g112 a2 fu dep 0 y3 0 I J).bind (fun (ov16, I17, J18) => g112 a2 fu (dep + 1) 2 y3 (y4 + 1) I17 J18))) else (f135 93 I J).bind (fun (ov2, I3, J4) => some ((), I3, J4)))
theorem dg112 {X : (Nat → Int32) × Nat} {d : Nat} {P : Nat → Nat → Value} {e r k r2 k2 : Nat} {a2 : Nat} (hw : pm_W P r k r2 k2) (hy0 : pm_rgT P a2) : ∀ fu dep : Nat, (∀ {x3 : Int32} {I : Nat → Nat → Int32} {J : Nat → Nat → Int64} {q : Unit × (Nat → Nat → Int32) × (Nat → Nat → Int64)} (h : g112 a2 fu dep 0 x3 0 I J = some q), pm_Fn X (d + dep + 7) 112 1 [.ref 97, .ref 1, .ref a2, .int x3] (I, J, P, pm_T0, e) (.inl none) (q.2.1, q.2.2, P, pm_T0, e)) ∧ (∀ {x3 : Int32} {I : Nat → Nat → Int32} {J : Nat → Nat → Int64} {q : Unit × (Nat → Nat → Int32) × (Nat → Nat → Int64)} (h : g112 a2 fu dep 1 x3 0 I J = some q), pm_Fn X (d + dep + 7) 114 1 [.ref 97, .ref 1, .ref a2, .int x3] (I, J, P, pm_T0, e) (.inl none) (q.2.1, q.2.2, P, pm_T0, e)) ∧ (∀ {y3 y4 : Int32} {I : Nat → Nat → Int32} {J : Nat → Nat → Int64} {q : Unit × (Nat → Nat → Int32) × (Nat → Nat → Int64)} (h : g112 a2 fu dep 2 y3 y4 I J = some q), pm_Fx X (d + dep + 7) 114 9 [.ref 97, .ref 1, .ref a2, .int y3, .int y4] [] (I, J, P, pm_T0, e) (.inl none) (q.2.1, q.2.2, P, pm_T0, e)) := by
  obtain ⟨hp, hw1, hw2, hw3, hw4, hw5, hw6, hw7, hw8, hw9, hw10, hw11⟩ := id hw
  have hwa := hw5.1
  have hwb := hw6.1
  have hwc := hw7.1
  have hwd := hw8.1
  obtain ⟨t0, ⟨t1, t2, t3, t4, t5, t6, t7⟩, u0, u1, u2, u3, u4, u5, u6⟩ := id hy0
  intro fu
  induction fu with
  | zero => exact fun dep => ⟨(by intro x3 I J q h; cases h), (by intro x3 I J q h; cases h), (by intro y3 y4 I J q h; cases h)⟩
  | succ fu ih =>
    intro dep
    cases dep with
    | zero => exact ⟨(by intro x3 I J q h; rw [g112] at h; cases h), (by intro x3 I J q h; rw [g112] at h; cases h), (by intro y3 y4 I J q h; rw [g112] at h; cases h)⟩
    | succ dep =>
      have hd : d + (dep + 1) + 7 = d + dep + 7 + 1 := by omega
      refine ⟨?_, ?_, ?_⟩
      · intro x3 I J q h
        rw [g112] at h
        rw [hd]
        refine fn_v rc112 (c := 7) (nf := 8) (by first | rfl | assumption) ml112 rfl rfl rfl rfl ?_
        refine al1 c112_0 ?_
        obtain ⟨⟨ov1, I2, J3⟩, e4, h⟩ := pm_bd_sp h
        dsimp only at h
        refine cv1 q112_1 (v := .int ov1) (μ1 := (I2, J3, P, pm_T0, e)) (d113 hw e4) rfl ?_
        refine is4 c112_4 rfl ?_
        refine il4 c112_6 ?_
        refine r_ic c112_8 kIm1 ?_
        refine r_icne (t := 18) c112_9 rfl (fun h5 => ?_) (fun h5 => ?_)
        · rw [if_neg h5] at h
          refine il4 c112_18 ?_
          refine r_bi c112_20 kB8 ?_
          refine r_icne (t := 37) c112_22 rfl (fun h6 => ?_) (fun h6 => ?_)
          · rw [if_neg h6] at h
            refine al1 c112_37 ?_
            obtain ⟨⟨ov7, I8, J9⟩, e10, h⟩ := pm_bd_sp h
            dsimp only at h
            refine cz1 q112_38 (μ1 := (I8, J9, P, pm_T0, e)) (d128 hw e10) rfl ?_
            refine al0 c112_41 ?_
            refine r_gi g112_42 (by first | rfl | assumption) rfl ?_
            refine is5 c112_45 rfl ?_
            refine al0 c112_47 ?_
            refine r_dpr c112_48 ?_
            refine r_gi g112_49 (by first | rfl | assumption) rfl ?_
            refine r_ic c112_52 kI1 ?_
            refine r_iadd c112_53 ?_
            refine w_pi p112_54 (by first | rfl | assumption) rfl ?_
            rw [pm_lt_eq] at h
            generalize pm_w I8 97 4 ((I8 97 4) + 1) = I11 at h ⊢
            refine al0 c112_57 ?_
            refine r_gr g112_58 rfl rfl (hp _ _ _ rfl) ?_
            refine il5 c112_61 ?_
            refine il4 c112_63 ?_
            refine cz3 q112_65 (t159 (by first | rfl | assumption) (by first | decide | assumption)) rfl ?_
            rw [pm_lt_eq] at h
            generalize pm_pw I11 98 150 (I8 97 4) ov1 = I12 at h ⊢
            refine il4 c112_68 ?_
            refine r_bi c112_70 kB8 ?_
            refine r_icne (t := 103) c112_72 rfl (fun h13 => ?_) (fun h13 => ?_)
            · rw [if_neg h13] at h
              refine al0 c112_103 ?_
              refine al1 c112_104 ?_
              refine al2 c112_105 ?_
              refine il5 c112_106 ?_
              obtain ⟨⟨ov14, I15, J16⟩, e17, h⟩ := pm_bd_sp h
              dsimp only at h
              refine cz4 q112_108 (μ1 := (I15, J16, P, pm_T0, e)) (d115 hw (by first | rfl | assumption | decide) e17) rfl ?_
              refine al0 c112_111 ?_
              refine r_gr g112_112 rfl rfl (hp _ _ _ rfl) ?_
              refine il5 c112_115 ?_
              refine al0 c112_117 ?_
              refine r_gi g112_118 (by first | rfl | assumption) rfl ?_
              refine cz3 q112_121 (t159 (by first | rfl | assumption) (by first | decide | assumption)) rfl ?_
              rw [pm_lt_eq] at h
              generalize pm_pw I15 101 150 (I8 97 4) (I15 97 4) = I18 at h ⊢
              refine al1 c112_124 ?_
              refine r_bi c112_125 kB59 ?_
              obtain ⟨⟨ov19, I20, J21⟩, e22, h⟩ := pm_bd_sp h
              dsimp only at h
              refine cz2 q112_127 (μ1 := (I20, J21, P, pm_T0, e)) (d135 hw e22) rfl ?_
              cases h
              exact r_rv c112_130 rt112 rfl
            · rw [if_pos h13] at h
              refine al0 c112_75 ?_
              refine r_gr g112_76 rfl rfl (hp _ _ _ rfl) ?_
              refine il5 c112_79 ?_
              refine al1 c112_81 ?_
              refine r_ic c112_82 kI0 ?_
              refine r_bi c112_83 kB60 ?_
              obtain ⟨⟨ov23, I24, J25⟩, e26, h⟩ := pm_bd_sp h
              dsimp only at h
              refine cv3 q112_85 (v := .int ov23) (μ1 := (I24, J25, P, pm_T0, e)) (d134 hw e26) rfl ?_
              refine cz3 q112_88 (t159 (by first | rfl | assumption) (by first | decide | assumption)) rfl ?_
              rw [pm_lt_eq] at h
              generalize pm_pw I24 100 150 (I8 97 4) ov23 = I27 at h ⊢
              refine al0 c112_91 ?_
              refine al1 c112_92 ?_
              refine al2 c112_93 ?_
              refine il3 c112_94 ?_
              refine r_ic c112_95 kI1 ?_
              refine r_iadd c112_96 ?_
              obtain ⟨⟨ov28, I29, J30⟩, e31, h⟩ := pm_bd_sp h
              dsimp only at h
              refine cz4 q112_97 (μ1 := (I29, J30, P, pm_T0, e)) ((ih dep).2.1 e31) rfl ?_
              refine r_go (t := 111) c112_100 rfl ?_
              refine al0 c112_111 ?_
              refine r_gr g112_112 rfl rfl (hp _ _ _ rfl) ?_
              refine il5 c112_115 ?_
              refine al0 c112_117 ?_
              refine r_gi g112_118 (by first | rfl | assumption) rfl ?_
              refine cz3 q112_121 (t159 (by first | rfl | assumption) (by first | decide | assumption)) rfl ?_
              rw [pm_lt_eq] at h
              generalize pm_pw I29 101 150 (I8 97 4) (I29 97 4) = I32 at h ⊢
              refine al1 c112_124 ?_
              refine r_bi c112_125 kB59 ?_
              obtain ⟨⟨ov33, I34, J35⟩, e36, h⟩ := pm_bd_sp h
              dsimp only at h
              refine cz2 q112_127 (μ1 := (I34, J35, P, pm_T0, e)) (d135 hw e36) rfl ?_
              cases h
              exact r_rv c112_130 rt112 rfl
          · rw [if_pos h6] at h
            refine il3 c112_25 ?_
            refine r_bi c112_26 kB6 ?_
            refine r_iclt (t := 37) c112_28 rfl (fun h37 => ?_) (fun h37 => ?_)
            · rw [if_pos h37] at h
              refine al1 c112_37 ?_
              obtain ⟨⟨ov38, I39, J40⟩, e41, h⟩ := pm_bd_sp h
              dsimp only at h
              refine cz1 q112_38 (μ1 := (I39, J40, P, pm_T0, e)) (d128 hw e41) rfl ?_
              refine al0 c112_41 ?_
              refine r_gi g112_42 (by first | rfl | assumption) rfl ?_
              refine is5 c112_45 rfl ?_
              refine al0 c112_47 ?_
              refine r_dpr c112_48 ?_
              refine r_gi g112_49 (by first | rfl | assumption) rfl ?_
              refine r_ic c112_52 kI1 ?_
              refine r_iadd c112_53 ?_
              refine w_pi p112_54 (by first | rfl | assumption) rfl ?_
              rw [pm_lt_eq] at h
              generalize pm_w I39 97 4 ((I39 97 4) + 1) = I42 at h ⊢
              refine al0 c112_57 ?_
              refine r_gr g112_58 rfl rfl (hp _ _ _ rfl) ?_
              refine il5 c112_61 ?_
              refine il4 c112_63 ?_
              refine cz3 q112_65 (t159 (by first | rfl | assumption) (by first | decide | assumption)) rfl ?_
              rw [pm_lt_eq] at h
              generalize pm_pw I42 98 150 (I39 97 4) ov1 = I43 at h ⊢
              refine il4 c112_68 ?_
              refine r_bi c112_70 kB8 ?_
              refine r_icne (t := 103) c112_72 rfl (fun h44 => ?_) (fun h44 => ?_)
              · rw [if_neg h44] at h
                refine al0 c112_103 ?_
                refine al1 c112_104 ?_
                refine al2 c112_105 ?_
                refine il5 c112_106 ?_
                obtain ⟨⟨ov45, I46, J47⟩, e48, h⟩ := pm_bd_sp h
                dsimp only at h
                refine cz4 q112_108 (μ1 := (I46, J47, P, pm_T0, e)) (d115 hw (by first | rfl | assumption | decide) e48) rfl ?_
                refine al0 c112_111 ?_
                refine r_gr g112_112 rfl rfl (hp _ _ _ rfl) ?_
                refine il5 c112_115 ?_
                refine al0 c112_117 ?_
                refine r_gi g112_118 (by first | rfl | assumption) rfl ?_
                refine cz3 q112_121 (t159 (by first | rfl | assumption) (by first | decide | assumption)) rfl ?_
                rw [pm_lt_eq] at h
                generalize pm_pw I46 101 150 (I39 97 4) (I46 97 4) = I49 at h ⊢
                refine al1 c112_124 ?_
                refine r_bi c112_125 kB59 ?_
                obtain ⟨⟨ov50, I51, J52⟩, e53, h⟩ := pm_bd_sp h
                dsimp only at h
                refine cz2 q112_127 (μ1 := (I51, J52, P, pm_T0, e)) (d135 hw e53) rfl ?_
                cases h
                exact r_rv c112_130 rt112 rfl
              · rw [if_pos h44] at h
                refine al0 c112_75 ?_
                refine r_gr g112_76 rfl rfl (hp _ _ _ rfl) ?_
                refine il5 c112_79 ?_
                refine al1 c112_81 ?_
                refine r_ic c112_82 kI0 ?_
                refine r_bi c112_83 kB60 ?_
                obtain ⟨⟨ov54, I55, J56⟩, e57, h⟩ := pm_bd_sp h
                dsimp only at h
                refine cv3 q112_85 (v := .int ov54) (μ1 := (I55, J56, P, pm_T0, e)) (d134 hw e57) rfl ?_
                refine cz3 q112_88 (t159 (by first | rfl | assumption) (by first | decide | assumption)) rfl ?_
                rw [pm_lt_eq] at h
                generalize pm_pw I55 100 150 (I39 97 4) ov54 = I58 at h ⊢
                refine al0 c112_91 ?_
                refine al1 c112_92 ?_
                refine al2 c112_93 ?_
                refine il3 c112_94 ?_
                refine r_ic c112_95 kI1 ?_
                refine r_iadd c112_96 ?_
                obtain ⟨⟨ov59, I60, J61⟩, e62, h⟩ := pm_bd_sp h
                dsimp only at h
                refine cz4 q112_97 (μ1 := (I60, J61, P, pm_T0, e)) ((ih dep).2.1 e62) rfl ?_
                refine r_go (t := 111) c112_100 rfl ?_
                refine al0 c112_111 ?_
                refine r_gr g112_112 rfl rfl (hp _ _ _ rfl) ?_
                refine il5 c112_115 ?_
                refine al0 c112_117 ?_
                refine r_gi g112_118 (by first | rfl | assumption) rfl ?_
                refine cz3 q112_121 (t159 (by first | rfl | assumption) (by first | decide | assumption)) rfl ?_
                rw [pm_lt_eq] at h
                generalize pm_pw I60 101 150 (I39 97 4) (I60 97 4) = I63 at h ⊢
                refine al1 c112_124 ?_
                refine r_bi c112_125 kB59 ?_
                obtain ⟨⟨ov64, I65, J66⟩, e67, h⟩ := pm_bd_sp h
                dsimp only at h
                refine cz2 q112_127 (μ1 := (I65, J66, P, pm_T0, e)) (d135 hw e67) rfl ?_
                cases h
                exact r_rv c112_130 rt112 rfl
            · rw [if_neg (Int.not_lt.mpr h37)] at h
              refine al1 c112_31 ?_
              refine r_ic c112_32 kI3 ?_
              obtain ⟨⟨ov68, I69, J70⟩, e71, h⟩ := pm_bd_sp h
              dsimp only at h
              refine cz2 q112_33 (μ1 := (I69, J70, P, pm_T0, e)) (d133 hw e71) rfl ?_
              cases h
              exact r_rv c112_36 rt112 rfl
        · rw [if_pos h5] at h
          refine al1 c112_12 ?_
          refine r_ic c112_13 kI1 ?_
          obtain ⟨⟨ov72, I73, J74⟩, e75, h⟩ := pm_bd_sp h
          dsimp only at h
          refine cz2 q112_14 (μ1 := (I73, J74, P, pm_T0, e)) (d133 hw e75) rfl ?_
          cases h
          exact r_rv c112_17 rt112 rfl
      · intro x3 I J q h
        rw [g112] at h
        rw [hd]
        refine fn_v rc114 (c := 7) (nf := 8) (by first | rfl | assumption) ml114 rfl rfl rfl rfl ?_
        refine al1 c114_0 ?_
        refine r_bi c114_1 kB91 ?_
        obtain ⟨⟨ov1, I2, J3⟩, e4, h⟩ := pm_bd_sp h
        dsimp only at h
        refine cz2 q114_3 (μ1 := (I2, J3, P, pm_T0, e)) (d135 hw e4) rfl ?_
        refine r_ic c114_6 kI0 ?_
        refine is4 c114_7 rfl ?_
        (rw [← hd]; exact (ih (dep + 1)).2.2 h)
      · intro y3 y4 I J q h
        rw [g112] at h
        rw [hd]
        refine il4 c114_9 ?_
        refine r_si c114_11 kS150 ?_
        refine r_icge (t := 46) c114_14 rfl (fun h1 => ?_) (fun h1 => ?_)
        · rw [if_neg (Int.not_lt.mpr h1)] at h
          refine al1 c114_46 ?_
          refine r_bi c114_47 kB93 ?_
          obtain ⟨⟨ov2, I3, J4⟩, e5, h⟩ := pm_bd_sp h
          dsimp only at h
          refine cz2 q114_49 (μ1 := (I3, J4, P, pm_T0, e)) (d135 hw e5) rfl ?_
          cases h
          exact r_rv c114_52 rt114 rfl
        · rw [if_pos h1] at h
          refine al1 c114_17 ?_
          refine cv1 q114_18 (d138 hw rfl) rfl ?_
          refine r_ifne (t := 46) c114_21 rfl (fun h6 => ?_) (fun h6 => ?_)
          · rw [if_pos (pm_bt h6)] at h
            refine al1 c114_46 ?_
            refine r_bi c114_47 kB93 ?_
            obtain ⟨⟨ov7, I8, J9⟩, e10, h⟩ := pm_bd_sp h
            dsimp only at h
            refine cz2 q114_49 (μ1 := (I8, J9, P, pm_T0, e)) (d135 hw e10) rfl ?_
            cases h
            exact r_rv c114_52 rt114 rfl
          · rw [if_neg (pm_bf h6)] at h
            refine al1 c114_24 ?_
            refine r_bi c114_25 kB93 ?_
            refine cv2 q114_27 (d136 hw rfl) rfl ?_
            refine r_ifne (t := 46) c114_30 rfl (fun h11 => ?_) (fun h11 => ?_)
            · rw [if_pos (pm_bt h11)] at h
              refine al1 c114_46 ?_
              refine r_bi c114_47 kB93 ?_
              obtain ⟨⟨ov12, I13, J14⟩, e15, h⟩ := pm_bd_sp h
              dsimp only at h
              refine cz2 q114_49 (μ1 := (I13, J14, P, pm_T0, e)) (d135 hw e15) rfl ?_
              cases h
              exact r_rv c114_52 rt114 rfl
            · rw [if_neg (pm_bf h11)] at h
              refine al0 c114_33 ?_
              refine al1 c114_34 ?_
              refine al2 c114_35 ?_
              refine il3 c114_36 ?_
              obtain ⟨⟨ov16, I17, J18⟩, e19, h⟩ := pm_bd_sp h
              dsimp only at h
              refine cz4 q114_37 (μ1 := (I17, J18, P, pm_T0, e)) ((ih dep).1 e19) rfl ?_
              refine ii4 c114_40 kI1 rfl ?_
              refine r_go (t := 9) c114_43 rfl ?_
              (rw [← hd]; exact (ih (dep + 1)).2.2 h)
def f112 (a2 : Nat) (x3 : Int32) (I : Nat → Nat → Int32) (J : Nat → Nat → Int64) : Option (Unit × (Nat → Nat → Int32) × (Nat → Nat → Int64)) := g112 a2 pm_FU 40 0 x3 0 I J
theorem d112 {X : (Nat → Int32) × Nat} {d : Nat} {I : Nat → Nat → Int32} {J : Nat → Nat → Int64} {P : Nat → Nat → Value} {e r k r2 k2 : Nat} {a2 : Nat} {x3 : Int32} {q : Unit × (Nat → Nat → Int32) × (Nat → Nat → Int64)} (hw : pm_W P r k r2 k2) (hy0 : pm_rgT P a2) (h : f112 a2 x3 I J = some q) : pm_Fn X (d + 47) 112 1 [.ref 97, .ref 1, .ref a2, .int x3] (I, J, P, pm_T0, e) (.inl none) (q.2.1, q.2.2, P, pm_T0, e) := by
  have hd : d + 40 + 7 = d + 47 := by omega
  rw [← hd]
  exact (dg112 hw hy0 pm_FU 40).1 h
def f114 (a2 : Nat) (x3 : Int32) (I : Nat → Nat → Int32) (J : Nat → Nat → Int64) : Option (Unit × (Nat → Nat → Int32) × (Nat → Nat → Int64)) := g112 a2 pm_FU 40 1 x3 0 I J
theorem d114 {X : (Nat → Int32) × Nat} {d : Nat} {I : Nat → Nat → Int32} {J : Nat → Nat → Int64} {P : Nat → Nat → Value} {e r k r2 k2 : Nat} {a2 : Nat} {x3 : Int32} {q : Unit × (Nat → Nat → Int32) × (Nat → Nat → Int64)} (hw : pm_W P r k r2 k2) (hy0 : pm_rgT P a2) (h : f114 a2 x3 I J = some q) : pm_Fn X (d + 47) 114 1 [.ref 97, .ref 1, .ref a2, .int x3] (I, J, P, pm_T0, e) (.inl none) (q.2.1, q.2.2, P, pm_T0, e) := by
  have hd : d + 40 + 7 = d + 47 := by omega
  rw [← hd]
  exact (dg112 hw hy0 pm_FU 40).2.1 h
def f111_7 (a2 : Nat) : Nat → Int32 → (Nat → Nat → Int32) → (Nat → Nat → Int64) → Option (Unit × (Nat → Nat → Int32) × (Nat → Nat → Int64))
  | 0, _, _, _ => none
  | fu + 1, y3, I, J => (if y3.toInt < (150 : Int32).toInt then (if (v131  I) = true then (f112 a2 0 I J).bind (fun (ov3, I4, J5) => f111_7 a2 fu (y3 + 1) I4 J5) else some ((), I, J)) else some ((), I, J))
def f111 (a2 : Nat) (I : Nat → Nat → Int32) (J : Nat → Nat → Int64) : Option (Unit × (Nat → Nat → Int32) × (Nat → Nat → Int64)) := pm_lt (pm_w I 97 4 0) (fun I1 => f111_7 a2 pm_FU 0 I1 J)
theorem d111_7 {X : (Nat → Int32) × Nat} {d : Nat} {P : Nat → Nat → Value} {e r k r2 k2 : Nat} {a2 : Nat} (hw : pm_W P r k r2 k2) (hy0 : pm_rgT P a2) : ∀ (fu : Nat) {y3 : Int32} {I : Nat → Nat → Int32} {J : Nat → Nat → Int64} {q : Unit × (Nat → Nat → Int32) × (Nat → Nat → Int64)} (h : f111_7 a2 fu y3 I J = some q), pm_Fx X (d + 48) 111 7 [.ref 97, .ref 1, .ref a2, .int y3] [] (I, J, P, pm_T0, e) (.inl none) (q.2.1, q.2.2, P, pm_T0, e) := by
  obtain ⟨hp, hw1, hw2, hw3, hw4, hw5, hw6, hw7, hw8, hw9, hw10, hw11⟩ := id hw
  have hwa := hw5.1
  have hwb := hw6.1
  have hwc := hw7.1
  have hwd := hw8.1
  obtain ⟨t0, ⟨t1, t2, t3, t4, t5, t6, t7⟩, u0, u1, u2, u3, u4, u5, u6⟩ := id hy0
  intro fu
  induction fu with
  | zero => intro y3 I J q h; cases h
  | succ fu ih =>
    intro y3 I J q h
    rw [f111_7] at h
    refine il3 c111_7 ?_
    refine r_si c111_8 kS150 ?_
    refine r_icge (t := 34) c111_11 rfl (fun h1 => ?_) (fun h1 => ?_)
    · rw [if_neg (Int.not_lt.mpr h1)] at h
      cases h
      exact r_rv c111_34 rt111 rfl
    · rw [if_pos h1] at h
      refine al1 c111_14 ?_
      refine cv1 q111_15 (d131 hw rfl) rfl ?_
      refine r_ifeq (t := 34) c111_18 rfl (fun h2 => ?_) (fun h2 => ?_)
      · rw [if_neg (pm_bf h2)] at h
        cases h
        exact r_rv c111_34 rt111 rfl
      · rw [if_pos (pm_bt h2)] at h
        refine al0 c111_21 ?_
        refine al1 c111_22 ?_
        refine al2 c111_23 ?_
        refine r_ic c111_24 kI0 ?_
        obtain ⟨⟨ov3, I4, J5⟩, e6, h⟩ := pm_bd_sp h
        dsimp only at h
        refine cz4 q111_25 (μ1 := (I4, J5, P, pm_T0, e)) (d112 hw (by first | rfl | assumption | decide) e6) rfl ?_
        refine ii3 c111_28 kI1 rfl ?_
        refine r_go (t := 7) c111_31 rfl ?_
        exact ih h
theorem d111 {X : (Nat → Int32) × Nat} {d : Nat} {I : Nat → Nat → Int32} {J : Nat → Nat → Int64} {P : Nat → Nat → Value} {e r k r2 k2 : Nat} {a2 : Nat} {q : Unit × (Nat → Nat → Int32) × (Nat → Nat → Int64)} (hw : pm_W P r k r2 k2) (hy0 : pm_rgT P a2) (h : f111 a2 I J = some q) : pm_Fn X (d + 48) 111 1 [.ref 97, .ref 1, .ref a2] (I, J, P, pm_T0, e) (.inl none) (q.2.1, q.2.2, P, pm_T0, e) := by
  obtain ⟨hp, hw1, hw2, hw3, hw4, hw5, hw6, hw7, hw8, hw9, hw10, hw11⟩ := id hw
  have hwa := hw5.1
  have hwb := hw6.1
  have hwc := hw7.1
  have hwd := hw8.1
  obtain ⟨t0, ⟨t1, t2, t3, t4, t5, t6, t7⟩, u0, u1, u2, u3, u4, u5, u6⟩ := id hy0
  unfold f111 at h
  refine fn_v rc111 (c := 7) (nf := 8) (by first | rfl | assumption) ml111 rfl rfl rfl rfl ?_
  refine al0 c111_0 ?_
  refine r_ic c111_1 kI0 ?_
  refine w_pi p111_2 (by first | rfl | assumption) rfl ?_
  rw [pm_lt_eq] at h
  generalize pm_w I 97 4 0 = I1 at h ⊢
  refine r_ic c111_5 kI0 ?_
  refine is3 c111_6 rfl ?_
  exact d111_7 hw hy0 pm_FU h
def f116  (I : Nat → Nat → Int32) (J : Nat → Nat → Int64) : Option (Unit × (Nat → Nat → Int32) × (Nat → Nat → Int64)) := pm_lt (pm_w I 97 5 0) (fun I1 => pm_lt (pm_w I1 97 6 0) (fun I2 => pm_lt (pm_w I2 97 7 0) (fun I3 => some ((), I3, J))))
theorem d116 {X : (Nat → Int32) × Nat} {d : Nat} {I : Nat → Nat → Int32} {J : Nat → Nat → Int64} {P : Nat → Nat → Value} {e r k r2 k2 : Nat}  {q : Unit × (Nat → Nat → Int32) × (Nat → Nat → Int64)} (hw : pm_W P r k r2 k2)  (h : f116  I J = some q) : pm_Fn X (d) 116 1 [.ref 97] (I, J, P, pm_T0, e) (.inl none) (q.2.1, q.2.2, P, pm_T0, e) := by
  obtain ⟨hp, hw1, hw2, hw3, hw4, hw5, hw6, hw7, hw8, hw9, hw10, hw11⟩ := id hw
  have hwa := hw5.1
  have hwb := hw6.1
  have hwc := hw7.1
  have hwd := hw8.1
  unfold f116 at h
  refine fn_v rc116 (c := 7) (nf := 8) (by first | rfl | assumption) ml116 rfl rfl rfl rfl ?_
  refine al0 c116_0 ?_
  refine r_ic c116_1 kI0 ?_
  refine w_pi p116_2 (by first | rfl | assumption) rfl ?_
  rw [pm_lt_eq] at h
  generalize pm_w I 97 5 0 = I1 at h ⊢
  refine al0 c116_5 ?_
  refine r_ic c116_6 kI0 ?_
  refine w_pi p116_7 (by first | rfl | assumption) rfl ?_
  rw [pm_lt_eq] at h
  generalize pm_w I1 97 6 0 = I2 at h ⊢
  refine al0 c116_10 ?_
  refine r_ic c116_11 kI0 ?_
  refine w_pi p116_12 (by first | rfl | assumption) rfl ?_
  rw [pm_lt_eq] at h
  generalize pm_w I2 97 7 0 = I3 at h ⊢
  cases h
  exact r_rv c116_15 rt116 rfl
def g118 (r : Nat)  : Nat → Nat → Nat → Int32 → Int32 → Int32 → Int32 → (Nat → Nat → Int32) → (Nat → Nat → Int64) → Option (Unit × (Nat → Nat → Int32) × (Nat → Nat → Int64))
  | 0, _, _, _, _, _, _, _, _ => none
  | _ + 1, 0, _, _, _, _, _, _, _ => none
  | fu + 1, dep + 1, 0, x2, x3, x4, _, I, J => g118 r fu (dep + 1) 2 0 x3 x4 x2 I J
  | fu + 1, dep + 1, 1, x2, x3, _, _, I, J => (if x3.toInt < (6 : Int32).toInt then g118 r fu (dep + 1) 3 x2 x3 0 0 I J else some ((), I, J))
  | fu + 1, dep + 1, 2, _, y3, y4, y5, I, J => (if y5.toInt < y3.toInt then (if (I 97 5).toInt < (200 : Int32).toInt then pm_lt (pm_w I 97 5 ((I 97 5) + 1)) (fun I3 => (if (pm_at (I3 98) 150 y5) = 8 then (g118 r fu dep 1 y5 y4 0 0 I3 J).bind (fun (ov12, I13, J14) => g118 r fu (dep + 1) 2 0 y3 y4 (pm_at (I13 101) 150 y5) I13 J14) else (f39 r (pm_at (I3 98) 150 y5) (pm_at (I3 99) 150 y5) (pm_at (I3 100) 150 y5) I3 J).bind (fun (ov5, I6, J7) => (if ov5 = true then pm_lt (pm_w I6 97 6 ((I6 97 6) + 1)) (fun I11 => g118 r fu (dep + 1) 2 0 y3 y4 (pm_at (I11 101) 150 y5) I11 J7) else pm_lt (pm_w I6 97 7 ((I6 97 7) + 1)) (fun I10 => g118 r fu (dep + 1) 2 0 y3 y4 (pm_at (I10 101) 150 y5) I10 J7))))) else some ((), I, J)) else some ((), I, J))
  | fu + 1, dep + 1, _ + 3, y2, y3, y4, _, I, J => (if y4.toInt < (pm_at (I 100) 150 y2).toInt then (if (I 97 5).toInt < (200 : Int32).toInt then (g118 r fu dep 0 (y2 + 1) (pm_at (I 101) 150 y2) (y3 + 1) 0 I J).bind (fun (ov3, I4, J5) => g118 r fu (dep + 1) 3 y2 y3 (y4 + 1) 0 I4 J5) else some ((), I, J)) else some ((), I, J))
theorem dg118 {X : (Nat → Int32) × Nat} {d : Nat} {P : Nat → Nat → Value} {e r k r2 k2 : Nat}  (hw : pm_W P r k r2 k2)  : ∀ fu dep : Nat, (∀ {x2 x3 x4 : Int32} {I : Nat → Nat → Int32} {J : Nat → Nat → Int64} {q : Unit × (Nat → Nat → Int32) × (Nat → Nat → Int64)} (h : g118 r fu dep 0 x2 x3 x4 0 I J = some q), pm_Fn X (d + dep + 6) 118 1 [.ref 97, .ref 3, .int x2, .int x3, .int x4] (I, J, P, pm_T0, e) (.inl none) (q.2.1, q.2.2, P, pm_T0, e)) ∧ (∀ {x2 x3 : Int32} {I : Nat → Nat → Int32} {J : Nat → Nat → Int64} {q : Unit × (Nat → Nat → Int32) × (Nat → Nat → Int64)} (h : g118 r fu dep 1 x2 x3 0 0 I J = some q), pm_Fn X (d + dep + 6) 119 1 [.ref 97, .ref 3, .int x2, .int x3] (I, J, P, pm_T0, e) (.inl none) (q.2.1, q.2.2, P, pm_T0, e)) ∧ (∀ {y3 y4 y5 : Int32} {I : Nat → Nat → Int32} {J : Nat → Nat → Int64} {q : Unit × (Nat → Nat → Int32) × (Nat → Nat → Int64)} {z2 : Value} (h : g118 r fu dep 2 0 y3 y4 y5 I J = some q), pm_Fx X (d + dep + 6) 118 3 [.ref 97, .ref 3, z2, .int y3, .int y4, .int y5] [] (I, J, P, pm_T0, e) (.inl none) (q.2.1, q.2.2, P, pm_T0, e)) ∧ (∀ {y2 y3 y4 : Int32} {I : Nat → Nat → Int32} {J : Nat → Nat → Int64} {q : Unit × (Nat → Nat → Int32) × (Nat → Nat → Int64)} (h : g118 r fu dep 3 y2 y3 y4 0 I J = some q), pm_Fx X (d + dep + 6) 119 10 [.ref 97, .ref 3, .int y2, .int y3, .int y4] [] (I, J, P, pm_T0, e) (.inl none) (q.2.1, q.2.2, P, pm_T0, e)) := by
  obtain ⟨hp, hw1, hw2, hw3, hw4, hw5, hw6, hw7, hw8, hw9, hw10, hw11⟩ := id hw
  have hwa := hw5.1
  have hwb := hw6.1
  have hwc := hw7.1
  have hwd := hw8.1
  intro fu
  induction fu with
  | zero => exact fun dep => ⟨(by intro x2 x3 x4 I J q h; cases h), (by intro x2 x3 I J q h; cases h), (by intro y3 y4 y5 I J q z2 h; cases h), (by intro y2 y3 y4 I J q h; cases h)⟩
  | succ fu ih =>
    intro dep
    cases dep with
    | zero => exact ⟨(by intro x2 x3 x4 I J q h; rw [g118] at h; cases h), (by intro x2 x3 I J q h; rw [g118] at h; cases h), (by intro y3 y4 y5 I J q z2 h; rw [g118] at h; cases h), (by intro y2 y3 y4 I J q h; rw [g118] at h; cases h)⟩
    | succ dep =>
      have hd : d + (dep + 1) + 6 = d + dep + 6 + 1 := by omega
      refine ⟨?_, ?_, ?_, ?_⟩
      · intro x2 x3 x4 I J q h
        rw [g118] at h
        rw [hd]
        refine fn_v rc118 (c := 7) (nf := 8) (by first | rfl | assumption) ml118 rfl rfl rfl rfl ?_
        refine il2 c118_0 ?_
        refine is5 c118_1 rfl ?_
        (rw [← hd]; exact (ih (dep + 1)).2.2.1 h)
      · intro x2 x3 I J q h
        rw [g118] at h
        rw [hd]
        refine fn_v rc119 (c := 7) (nf := 8) (by first | rfl | assumption) ml119 rfl rfl rfl rfl ?_
        refine il3 c119_0 ?_
        refine r_bi c119_1 kB6 ?_
        refine r_iclt (t := 7) c119_3 rfl (fun h1 => ?_) (fun h1 => ?_)
        · rw [if_pos h1] at h
          refine r_ic c119_7 kI0 ?_
          refine is4 c119_8 rfl ?_
          (rw [← hd]; exact (ih (dep + 1)).2.2.2 h)
        · rw [if_neg (Int.not_lt.mpr h1)] at h
          cases h
          exact r_rv c119_6 rt119 rfl
      · intro y3 y4 y5 I J q z2 h
        rw [g118] at h
        rw [hd]
        refine il5 c118_3 ?_
        refine il3 c118_5 ?_
        refine r_icge (t := 126) c118_6 rfl (fun h1 => ?_) (fun h1 => ?_)
        · rw [if_neg (Int.not_lt.mpr h1)] at h
          cases h
          exact r_rv c118_126 rt118 rfl
        · rw [if_pos h1] at h
          refine al0 c118_9 ?_
          refine r_gi g118_10 (by first | rfl | assumption) rfl ?_
          refine r_si c118_13 kS200 ?_
          refine r_icge (t := 126) c118_16 rfl (fun h2 => ?_) (fun h2 => ?_)
          · rw [if_neg (Int.not_lt.mpr h2)] at h
            cases h
            exact r_rv c118_126 rt118 rfl
          · rw [if_pos h2] at h
            refine al0 c118_19 ?_
            refine r_dpr c118_20 ?_
            refine r_gi g118_21 (by first | rfl | assumption) rfl ?_
            refine r_ic c118_24 kI1 ?_
            refine r_iadd c118_25 ?_
            refine w_pi p118_26 (by first | rfl | assumption) rfl ?_
            rw [pm_lt_eq] at h
            generalize pm_w I 97 5 ((I 97 5) + 1) = I3 at h ⊢
            refine al0 c118_29 ?_
            refine r_gr g118_30 rfl rfl (hp _ _ _ rfl) ?_
            refine il5 c118_33 ?_
            refine cv2 q118_35 (s160 (by first | rfl | assumption) (by first | decide | assumption)) rfl ?_
            refine r_bi c118_38 kB8 ?_
            refine r_icne (t := 55) c118_40 rfl (fun h4 => ?_) (fun h4 => ?_)
            · rw [if_neg h4] at h
              refine al1 c118_55 ?_
              refine al0 c118_56 ?_
              refine r_gr g118_57 rfl rfl (hp _ _ _ rfl) ?_
              refine il5 c118_60 ?_
              refine cv2 q118_62 (s160 (by first | rfl | assumption) (by first | decide | assumption)) rfl ?_
              refine al0 c118_65 ?_
              refine r_gr g118_66 rfl rfl (hp _ _ _ rfl) ?_
              refine il5 c118_69 ?_
              refine cv2 q118_71 (s160 (by first | rfl | assumption) (by first | decide | assumption)) rfl ?_
              refine al0 c118_74 ?_
              refine r_gr g118_75 rfl rfl (hp _ _ _ rfl) ?_
              refine il5 c118_78 ?_
              refine cv2 q118_80 (s160 (by first | rfl | assumption) (by first | decide | assumption)) rfl ?_
              obtain ⟨⟨ov5, I6, J7⟩, e8, h⟩ := pm_bd_sp h
              dsimp only at h
              refine cv4 q118_83 (v := .int (pm_bi ov5)) (μ1 := (I6, J7, P, pm_T0, e)) (d39 hw e8) rfl ?_
              refine r_ifeq (t := 102) c118_86 rfl (fun h9 => ?_) (fun h9 => ?_)
              · rw [if_neg (pm_bf h9)] at h
                refine al0 c118_102 ?_
                refine r_dpr c118_103 ?_
                refine r_gi g118_104 (by first | rfl | assumption) rfl ?_
                refine r_ic c118_107 kI1 ?_
                refine r_iadd c118_108 ?_
                refine w_pi p118_109 (by first | rfl | assumption) rfl ?_
                rw [pm_lt_eq] at h
                generalize pm_w I6 97 7 ((I6 97 7) + 1) = I10 at h ⊢
                refine al0 c118_112 ?_
                refine r_gr g118_113 rfl rfl (hp _ _ _ rfl) ?_
                refine il5 c118_116 ?_
                refine cv2 q118_118 (s160 (by first | rfl | assumption) (by first | decide | assumption)) rfl ?_
                refine is5 c118_121 rfl ?_
                refine r_go (t := 3) c118_123 rfl ?_
                (rw [← hd]; exact (ih (dep + 1)).2.2.1 h)
              · rw [if_pos (pm_bt h9)] at h
                refine al0 c118_89 ?_
                refine r_dpr c118_90 ?_
                refine r_gi g118_91 (by first | rfl | assumption) rfl ?_
                refine r_ic c118_94 kI1 ?_
                refine r_iadd c118_95 ?_
                refine w_pi p118_96 (by first | rfl | assumption) rfl ?_
                rw [pm_lt_eq] at h
                generalize pm_w I6 97 6 ((I6 97 6) + 1) = I11 at h ⊢
                refine r_go (t := 112) c118_99 rfl ?_
                refine al0 c118_112 ?_
                refine r_gr g118_113 rfl rfl (hp _ _ _ rfl) ?_
                refine il5 c118_116 ?_
                refine cv2 q118_118 (s160 (by first | rfl | assumption) (by first | decide | assumption)) rfl ?_
                refine is5 c118_121 rfl ?_
                refine r_go (t := 3) c118_123 rfl ?_
                (rw [← hd]; exact (ih (dep + 1)).2.2.1 h)
            · rw [if_pos h4] at h
              refine al0 c118_43 ?_
              refine al1 c118_44 ?_
              refine il5 c118_45 ?_
              refine il4 c118_47 ?_
              obtain ⟨⟨ov12, I13, J14⟩, e15, h⟩ := pm_bd_sp h
              dsimp only at h
              refine cz4 q118_49 (μ1 := (I13, J14, P, pm_T0, e)) ((ih dep).2.1 e15) rfl ?_
              refine r_go (t := 112) c118_52 rfl ?_
              refine al0 c118_112 ?_
              refine r_gr g118_113 rfl rfl (hp _ _ _ rfl) ?_
              refine il5 c118_116 ?_
              refine cv2 q118_118 (s160 (by first | rfl | assumption) (by first | decide | assumption)) rfl ?_
              refine is5 c118_121 rfl ?_
              refine r_go (t := 3) c118_123 rfl ?_
              (rw [← hd]; exact (ih (dep + 1)).2.2.1 h)
      · intro y2 y3 y4 I J q h
        rw [g118] at h
        rw [hd]
        refine il4 c119_10 ?_
        refine al0 c119_12 ?_
        refine r_gr g119_13 rfl rfl (hp _ _ _ rfl) ?_
        refine il2 c119_16 ?_
        refine cv2 q119_17 (s160 (by first | rfl | assumption) (by first | decide | assumption)) rfl ?_
        refine r_icge (t := 58) c119_20 rfl (fun h1 => ?_) (fun h1 => ?_)
        · rw [if_neg (Int.not_lt.mpr h1)] at h
          cases h
          exact r_rv c119_58 rt119 rfl
        · rw [if_pos h1] at h
          refine al0 c119_23 ?_
          refine r_gi g119_24 (by first | rfl | assumption) rfl ?_
          refine r_si c119_27 kS200 ?_
          refine r_icge (t := 58) c119_30 rfl (fun h2 => ?_) (fun h2 => ?_)
          · rw [if_neg (Int.not_lt.mpr h2)] at h
            cases h
            exact r_rv c119_58 rt119 rfl
          · rw [if_pos h2] at h
            refine al0 c119_33 ?_
            refine al1 c119_34 ?_
            refine il2 c119_35 ?_
            refine r_ic c119_36 kI1 ?_
            refine r_iadd c119_37 ?_
            refine al0 c119_38 ?_
            refine r_gr g119_39 rfl rfl (hp _ _ _ rfl) ?_
            refine il2 c119_42 ?_
            refine cv2 q119_43 (s160 (by first | rfl | assumption) (by first | decide | assumption)) rfl ?_
            refine il3 c119_46 ?_
            refine r_ic c119_47 kI1 ?_
            refine r_iadd c119_48 ?_
            obtain ⟨⟨ov3, I4, J5⟩, e6, h⟩ := pm_bd_sp h
            dsimp only at h
            refine cz5 q119_49 (μ1 := (I4, J5, P, pm_T0, e)) ((ih dep).1 e6) rfl ?_
            refine ii4 c119_52 kI1 rfl ?_
            refine r_go (t := 10) c119_55 rfl ?_
            (rw [← hd]; exact (ih (dep + 1)).2.2.2 h)
def f118 (r : Nat) (x2 : Int32) (x3 : Int32) (x4 : Int32) (I : Nat → Nat → Int32) (J : Nat → Nat → Int64) : Option (Unit × (Nat → Nat → Int32) × (Nat → Nat → Int64)) := g118 r pm_FU 40 0 x2 x3 x4 0 I J
theorem d118 {X : (Nat → Int32) × Nat} {d : Nat} {I : Nat → Nat → Int32} {J : Nat → Nat → Int64} {P : Nat → Nat → Value} {e r k r2 k2 : Nat} {x2 : Int32} {x3 : Int32} {x4 : Int32} {q : Unit × (Nat → Nat → Int32) × (Nat → Nat → Int64)} (hw : pm_W P r k r2 k2)  (h : f118 r x2 x3 x4 I J = some q) : pm_Fn X (d + 46) 118 1 [.ref 97, .ref 3, .int x2, .int x3, .int x4] (I, J, P, pm_T0, e) (.inl none) (q.2.1, q.2.2, P, pm_T0, e) := by
  have hd : d + 40 + 6 = d + 46 := by omega
  rw [← hd]
  exact (dg118 hw pm_FU 40).1 h
def f119 (r : Nat) (x2 : Int32) (x3 : Int32) (I : Nat → Nat → Int32) (J : Nat → Nat → Int64) : Option (Unit × (Nat → Nat → Int32) × (Nat → Nat → Int64)) := g118 r pm_FU 40 1 x2 x3 0 0 I J
theorem d119 {X : (Nat → Int32) × Nat} {d : Nat} {I : Nat → Nat → Int32} {J : Nat → Nat → Int64} {P : Nat → Nat → Value} {e r k r2 k2 : Nat} {x2 : Int32} {x3 : Int32} {q : Unit × (Nat → Nat → Int32) × (Nat → Nat → Int64)} (hw : pm_W P r k r2 k2)  (h : f119 r x2 x3 I J = some q) : pm_Fn X (d + 46) 119 1 [.ref 97, .ref 3, .int x2, .int x3] (I, J, P, pm_T0, e) (.inl none) (q.2.1, q.2.2, P, pm_T0, e) := by
  have hd : d + 40 + 6 = d + 46 := by omega
  rw [← hd]
  exact (dg118 hw pm_FU 40).2.1 h
def f124_3  : Nat → Int32 → Int32 → (Nat → Nat → Int32) → (Nat → Nat → Int64) → Option (Unit × (Nat → Nat → Int32) × (Nat → Nat → Int64))
  | 0, _, _, _, _ => none
  | fu + 1, y1, y2, I, J => (if y2.toInt < 0 then some ((), I, J) else (if (I 1 1).toInt < (nI 600).toInt then pm_lt (pm_pw I 2 600 (I 1 1) (((y1.toUInt32 >>> (y2.toUInt32 &&& Int32.toUInt32 31)).toInt32) &&& 255)) (fun I3 => pm_lt (pm_w I3 1 1 ((I3 1 1) + 1)) (fun I4 => f124_3 fu y1 (y2 + (-8)) I4 J)) else f124_3 fu y1 (y2 + (-8)) I J))
def f124 (x1 : Int32) (I : Nat → Nat → Int32) (J : Nat → Nat → Int64) : Option (Unit × (Nat → Nat → Int32) × (Nat → Nat → Int64)) := f124_3 pm_FU x1 24 I J
theorem d124_3 {X : (Nat → Int32) × Nat} {d : Nat} {P : Nat → Nat → Value} {e r k r2 k2 : Nat}  (hw : pm_W P r k r2 k2)  : ∀ (fu : Nat) {y1 y2 : Int32} {I : Nat → Nat → Int32} {J : Nat → Nat → Int64} {q : Unit × (Nat → Nat → Int32) × (Nat → Nat → Int64)} (h : f124_3 fu y1 y2 I J = some q), pm_Fx X (d + 1) 124 3 [.ref 1, .int y1, .int y2] [] (I, J, P, pm_T0, e) (.inl none) (q.2.1, q.2.2, P, pm_T0, e) := by
  obtain ⟨hp, hw1, hw2, hw3, hw4, hw5, hw6, hw7, hw8, hw9, hw10, hw11⟩ := id hw
  have hwa := hw5.1
  have hwb := hw6.1
  have hwc := hw7.1
  have hwd := hw8.1
  intro fu
  induction fu with
  | zero => intro y1 y2 I J q h; cases h
  | succ fu ih =>
    intro y1 y2 I J q h
    rw [f124_3] at h
    refine il2 c124_3 ?_
    refine r_iflt (t := 53) c124_4 rfl (fun h1 => ?_) (fun h1 => ?_)
    · rw [if_pos h1] at h
      cases h
      exact r_rv c124_53 rt124 rfl
    · rw [if_neg (Int.not_lt.mpr h1)] at h
      refine al0 c124_7 ?_
      refine r_gi g124_8 (by first | rfl | assumption) rfl ?_
      refine al0 c124_11 ?_
      refine r_gr g124_12 rfl rfl (hp _ _ _ rfl) ?_
      refine r_len c124_15 (by first | rfl | assumption) rfl ?_
      refine r_icge (t := 47) c124_16 rfl (fun h2 => ?_) (fun h2 => ?_)
      · rw [if_neg (Int.not_lt.mpr h2)] at h
        refine ii2 c124_47 kIm8 rfl ?_
        refine r_go (t := 3) c124_50 rfl ?_
        exact ih h
      · rw [if_pos h2] at h
        refine al0 c124_19 ?_
        refine r_gr g124_20 rfl rfl (hp _ _ _ rfl) ?_
        refine al0 c124_23 ?_
        refine r_gi g124_24 (by first | rfl | assumption) rfl ?_
        refine il1 c124_27 ?_
        refine il2 c124_28 ?_
        refine r_iushr c124_29 ?_
        refine r_si c124_30 kS255 ?_
        refine r_iand c124_33 ?_
        refine cz3 q124_34 (t159 (by first | rfl | assumption) (by first | decide | assumption)) rfl ?_
        rw [pm_lt_eq] at h
        generalize pm_pw I 2 600 (I 1 1) (((y1.toUInt32 >>> (y2.toUInt32 &&& Int32.toUInt32 31)).toInt32) &&& 255) = I3 at h ⊢
        refine al0 c124_37 ?_
        refine r_dpr c124_38 ?_
        refine r_gi g124_39 (by first | rfl | assumption) rfl ?_
        refine r_ic c124_42 kI1 ?_
        refine r_iadd c124_43 ?_
        refine w_pi p124_44 (by first | rfl | assumption) rfl ?_
        rw [pm_lt_eq] at h
        generalize pm_w I3 1 1 ((I3 1 1) + 1) = I4 at h ⊢
        refine ii2 c124_47 kIm8 rfl ?_
        refine r_go (t := 3) c124_50 rfl ?_
        exact ih h
theorem d124 {X : (Nat → Int32) × Nat} {d : Nat} {I : Nat → Nat → Int32} {J : Nat → Nat → Int64} {P : Nat → Nat → Value} {e r k r2 k2 : Nat} {x1 : Int32} {q : Unit × (Nat → Nat → Int32) × (Nat → Nat → Int64)} (hw : pm_W P r k r2 k2)  (h : f124 x1 I J = some q) : pm_Fn X (d + 1) 124 1 [.ref 1, .int x1] (I, J, P, pm_T0, e) (.inl none) (q.2.1, q.2.2, P, pm_T0, e) := by
  obtain ⟨hp, hw1, hw2, hw3, hw4, hw5, hw6, hw7, hw8, hw9, hw10, hw11⟩ := id hw
  have hwa := hw5.1
  have hwb := hw6.1
  have hwc := hw7.1
  have hwd := hw8.1
  unfold f124 at h
  refine fn_v rc124 (c := 8) (nf := 9) (by first | rfl | assumption) ml124 rfl rfl rfl rfl ?_
  refine r_bi c124_0 kB24 ?_
  refine is2 c124_2 rfl ?_
  exact d124_3 hw pm_FU h
def f127  (I : Nat → Nat → Int32) (J : Nat → Nat → Int64) : Option (Unit × (Nat → Nat → Int32) × (Nat → Nat → Int64)) := pm_lt (pm_w I 1 7 0) (fun I1 => pm_lt (pm_w I1 1 8 (-1)) (fun I2 => some ((), I2, J)))
theorem d127 {X : (Nat → Int32) × Nat} {d : Nat} {I : Nat → Nat → Int32} {J : Nat → Nat → Int64} {P : Nat → Nat → Value} {e r k r2 k2 : Nat}  {q : Unit × (Nat → Nat → Int32) × (Nat → Nat → Int64)} (hw : pm_W P r k r2 k2)  (h : f127  I J = some q) : pm_Fn X (d) 127 1 [.ref 1] (I, J, P, pm_T0, e) (.inl none) (q.2.1, q.2.2, P, pm_T0, e) := by
  obtain ⟨hp, hw1, hw2, hw3, hw4, hw5, hw6, hw7, hw8, hw9, hw10, hw11⟩ := id hw
  have hwa := hw5.1
  have hwb := hw6.1
  have hwc := hw7.1
  have hwd := hw8.1
  unfold f127 at h
  refine fn_v rc127 (c := 8) (nf := 9) (by first | rfl | assumption) ml127 rfl rfl rfl rfl ?_
  refine al0 c127_0 ?_
  refine r_ic c127_1 kI0 ?_
  refine w_pi p127_2 (by first | rfl | assumption) rfl ?_
  rw [pm_lt_eq] at h
  generalize pm_w I 1 7 0 = I1 at h ⊢
  refine al0 c127_5 ?_
  refine r_ic c127_6 kIm1 ?_
  refine w_pi p127_7 (by first | rfl | assumption) rfl ?_
  rw [pm_lt_eq] at h
  generalize pm_w I1 1 8 (-1) = I2 at h ⊢
  cases h
  exact r_rv c127_10 rt127 rfl
def f126 (x1 : Int32) (I : Nat → Nat → Int32) (J : Nat → Nat → Int64) : Option (Unit × (Nat → Nat → Int32) × (Nat → Nat → Int64)) := (f127  I J).bind (fun (ov1, I2, J3) => pm_lt (pm_w I2 1 2 (pm_min x1 (I2 1 1))) (fun I5 => pm_lt (pm_w I5 1 5 0) (fun I6 => (f128  I6 J3).bind (fun (ov7, I8, J9) => some ((), I8, J9)))))
theorem d126 {X : (Nat → Int32) × Nat} {d : Nat} {I : Nat → Nat → Int32} {J : Nat → Nat → Int64} {P : Nat → Nat → Value} {e r k r2 k2 : Nat} {x1 : Int32} {q : Unit × (Nat → Nat → Int32) × (Nat → Nat → Int64)} (hw : pm_W P r k r2 k2)  (h : f126 x1 I J = some q) : pm_Fn X (d + 2) 126 1 [.ref 1, .int x1] (I, J, P, pm_T0, e) (.inl none) (q.2.1, q.2.2, P, pm_T0, e) := by
  obtain ⟨hp, hw1, hw2, hw3, hw4, hw5, hw6, hw7, hw8, hw9, hw10, hw11⟩ := id hw
  have hwa := hw5.1
  have hwb := hw6.1
  have hwc := hw7.1
  have hwd := hw8.1
  unfold f126 at h
  refine fn_v rc126 (c := 8) (nf := 9) (by first | rfl | assumption) ml126 rfl rfl rfl rfl ?_
  refine al0 c126_0 ?_
  obtain ⟨⟨ov1, I2, J3⟩, e4, h⟩ := pm_bd_sp h
  dsimp only at h
  refine cz1 q126_1 (μ1 := (I2, J3, P, pm_T0, e)) (d127 hw e4) rfl ?_
  refine al0 c126_4 ?_
  refine il1 c126_5 ?_
  refine al0 c126_6 ?_
  refine r_gi g126_7 (by first | rfl | assumption) rfl ?_
  refine cv2 q126_10 s363 rfl ?_
  refine w_pi p126_13 (by first | rfl | assumption) rfl ?_
  rw [pm_lt_eq] at h
  generalize pm_w I2 1 2 (pm_min x1 (I2 1 1)) = I5 at h ⊢
  refine al0 c126_16 ?_
  refine r_ic c126_17 kI0 ?_
  refine w_pi p126_18 (by first | rfl | assumption) rfl ?_
  rw [pm_lt_eq] at h
  generalize pm_w I5 1 5 0 = I6 at h ⊢
  refine al0 c126_21 ?_
  obtain ⟨⟨ov7, I8, J9⟩, e10, h⟩ := pm_bd_sp h
  dsimp only at h
  refine cz1 q126_22 (μ1 := (I8, J9, P, pm_T0, e)) (d128 hw e10) rfl ?_
  cases h
  exact r_rv c126_25 rt126 rfl
def f137  (I : Nat → Nat → Int32) (J : Nat → Nat → Int64) : Option (Unit × (Nat → Nat → Int32) × (Nat → Nat → Int64)) := pm_lt (pm_w I 1 1 0) (fun I1 => some ((), I1, J))
theorem d137 {X : (Nat → Int32) × Nat} {d : Nat} {I : Nat → Nat → Int32} {J : Nat → Nat → Int64} {P : Nat → Nat → Value} {e r k r2 k2 : Nat}  {q : Unit × (Nat → Nat → Int32) × (Nat → Nat → Int64)} (hw : pm_W P r k r2 k2)  (h : f137  I J = some q) : pm_Fn X (d) 137 1 [.ref 1] (I, J, P, pm_T0, e) (.inl none) (q.2.1, q.2.2, P, pm_T0, e) := by
  obtain ⟨hp, hw1, hw2, hw3, hw4, hw5, hw6, hw7, hw8, hw9, hw10, hw11⟩ := id hw
  have hwa := hw5.1
  have hwb := hw6.1
  have hwc := hw7.1
  have hwd := hw8.1
  unfold f137 at h
  refine fn_v rc137 (c := 8) (nf := 9) (by first | rfl | assumption) ml137 rfl rfl rfl rfl ?_
  refine al0 c137_0 ?_
  refine r_ic c137_1 kI0 ?_
  refine w_pi p137_2 (by first | rfl | assumption) rfl ?_
  rw [pm_lt_eq] at h
  generalize pm_w I 1 1 0 = I1 at h ⊢
  cases h
  exact r_rv c137_5 rt137 rfl
