/-! THE METHODS AS FUNCTIONS OF THE MEMORY (written by dec.py) -/
def f256_26  : Nat → Int32 → (Nat → Nat → Int32) → (Nat → Nat → Int64) → Option (Bool × (Nat → Nat → Int32) × (Nat → Nat → Int64))
  | 0, _, _, _ => none
  | fu + 1, y1, I, J => (if y1.toInt < (I 127 18).toInt then pm_gd (pm_in (0 + y1) 66) ((if (I 144 (0 + y1).toNatClampNeg) = 0 then pm_gd (pm_in (0 + y1) 66) (pm_lt (pm_w I 144 (0 + y1).toNatClampNeg 1) (fun I5 => f256_26 fu (y1 + 1) I5 J)) else f256_26 fu (y1 + 1) I J)) else some (true, I, J))
def f256  (I : Nat → Nat → Int32) (J : Nat → Nat → Int64) : Option (Bool × (Nat → Nat → Int32) × (Nat → Nat → Int64)) := (f257 0 I J).bind (fun (ov1, I2, J3) => (if ov1 = 0 then some (false, I2, J3) else pm_gd (pm_in 64 66) ((if (I2 144 (64 : Int32).toNatClampNeg).toInt < (I2 127 20).toInt then some (false, I2, J3) else f256_26 pm_FU 0 I2 J3))))
theorem d256_26 {X : (Nat → Int32) × Nat} {d : Nat} {P : Nat → Nat → Value} {e r k r2 k2 : Nat}  (hw : pm_W P r k r2 k2)  : ∀ (fu : Nat) {y1 : Int32} {I : Nat → Nat → Int32} {J : Nat → Nat → Int64} {q : Bool × (Nat → Nat → Int32) × (Nat → Nat → Int64)} (h : f256_26 fu y1 I J = some q), pm_Fx X (d + 1) 256 26 [.ref 127, .int y1] [] (I, J, P, pm_T0, e) (.inl (some (.int (pm_bi q.1)))) (q.2.1, q.2.2, P, pm_T0, e) := by
  obtain ⟨hp, hw1, hw2, hw3, hw4, hw5, hw6, hw7, hw8, hw9, hw10, hw11⟩ := id hw
  have hwa := hw5.1
  have hwb := hw6.1
  have hwc := hw7.1
  have hwd := hw8.1
  intro fu
  induction fu with
  | zero => intro y1 I J q h; cases h
  | succ fu ih =>
    intro y1 I J q h
    rw [f256_26] at h
    refine il1 c256_26 ?_
    refine al0 c256_27 ?_
    refine r_gi g256_28 (by first | rfl | assumption) rfl ?_
    refine r_icge (t := 60) c256_31 rfl (fun h1 => ?_) (fun h1 => ?_)
    · rw [if_neg (Int.not_lt.mpr h1)] at h
      refine r_ic c256_60 kI1 ?_
      cases h
      exact r_rz c256_61 rt256 (by decide) rfl rfl
    · rw [if_pos h1] at h
      refine al0 c256_34 ?_
      refine r_gr g256_35 rfl rfl (hp _ _ _ rfl) ?_
      refine r_ic c256_38 kI0 ?_
      refine il1 c256_39 ?_
      refine r_iadd c256_40 ?_
      obtain ⟨gd2, h⟩ := pm_gd_sp h
      refine w_ia c256_41 (by first | rfl | assumption) gd2 ?_
      refine r_ifne (t := 54) c256_42 rfl (fun h3 => ?_) (fun h3 => ?_)
      · rw [if_neg h3] at h
        refine ii1 c256_54 kI1 rfl ?_
        refine r_go (t := 26) c256_57 rfl ?_
        exact ih h
      · rw [if_pos h3] at h
        refine al0 c256_45 ?_
        refine r_gr g256_46 rfl rfl (hp _ _ _ rfl) ?_
        refine r_ic c256_49 kI0 ?_
        refine il1 c256_50 ?_
        refine r_iadd c256_51 ?_
        refine r_ic c256_52 kI1 ?_
        obtain ⟨gd4, h⟩ := pm_gd_sp h
        refine w_ist c256_53 (by first | rfl | assumption) gd4 ?_
        rw [pm_lt_eq] at h
        generalize pm_w I 144 (0 + y1).toNatClampNeg 1 = I5 at h ⊢
        refine ii1 c256_54 kI1 rfl ?_
        refine r_go (t := 26) c256_57 rfl ?_
        exact ih h
theorem d256 {X : (Nat → Int32) × Nat} {d : Nat} {I : Nat → Nat → Int32} {J : Nat → Nat → Int64} {P : Nat → Nat → Value} {e r k r2 k2 : Nat}  {q : Bool × (Nat → Nat → Int32) × (Nat → Nat → Int64)} (hw : pm_W P r k r2 k2)  (h : f256  I J = some q) : pm_Fn X (d + 1) 256 1 [.ref 127] (I, J, P, pm_T0, e) (.inl (some (.int (pm_bi q.1)))) (q.2.1, q.2.2, P, pm_T0, e) := by
  obtain ⟨hp, hw1, hw2, hw3, hw4, hw5, hw6, hw7, hw8, hw9, hw10, hw11⟩ := id hw
  have hwa := hw5.1
  have hwb := hw6.1
  have hwc := hw7.1
  have hwd := hw8.1
  unfold f256 at h
  refine fn_v rc256 (c := 12) (nf := 59) (by first | rfl | assumption) ml256 rfl rfl rfl rfl ?_
  refine al0 c256_0 ?_
  refine r_ic c256_1 kI0 ?_
  obtain ⟨⟨ov1, I2, J3⟩, e4, h⟩ := pm_bd_sp h
  dsimp only at h
  refine cv2 q256_2 (v := .int ov1) (μ1 := (I2, J3, P, pm_T0, e)) (d257 hw e4) rfl ?_
  refine r_ifeq (t := 22) c256_5 rfl (fun h5 => ?_) (fun h5 => ?_)
  · rw [if_pos h5] at h
    refine r_ic c256_22 kI0 ?_
    cases h
    exact r_rz c256_23 rt256 (by decide) rfl rfl
  · rw [if_neg h5] at h
    refine al0 c256_8 ?_
    refine r_gr g256_9 rfl rfl (hp _ _ _ rfl) ?_
    refine r_bi c256_12 kB64 ?_
    obtain ⟨gd6, h⟩ := pm_gd_sp h
    refine w_ia c256_14 (by first | rfl | assumption) gd6 ?_
    refine al0 c256_15 ?_
    refine r_gi g256_16 (by first | rfl | assumption) rfl ?_
    refine r_icge (t := 24) c256_19 rfl (fun h7 => ?_) (fun h7 => ?_)
    · rw [if_neg (Int.not_lt.mpr h7)] at h
      refine r_ic c256_24 kI0 ?_
      refine is1 c256_25 rfl ?_
      exact d256_26 hw pm_FU h
    · rw [if_pos h7] at h
      refine r_ic c256_22 kI0 ?_
      cases h
      exact r_rz c256_23 rt256 (by decide) rfl rfl
def f259_4  : Nat → Int32 → Int32 → Int32 → (Nat → Nat → Int32) → (Nat → Nat → Int64) → Option (Int32 × (Nat → Nat → Int32) × (Nat → Nat → Int64))
  | 0, _, _, _, _, _ => none
  | fu + 1, y1, y2, y3, I, J => (if y3.toInt < (I 127 18).toInt then pm_gd (pm_in (0 + y3) 66) ((if (I 144 (0 + y3).toNatClampNeg) = 2 then pm_gd (pm_in (8 + y3) 66) ((if (I 144 (8 + y3).toNatClampNeg) = y1 then f259_4 fu y1 (y2 + 1) (y3 + 1) I J else f259_4 fu y1 (y2 + 0) (y3 + 1) I J)) else f259_4 fu y1 (y2 + 0) (y3 + 1) I J)) else some (y2, I, J))
def f259 (x1 : Int32) (I : Nat → Nat → Int32) (J : Nat → Nat → Int64) : Option (Int32 × (Nat → Nat → Int32) × (Nat → Nat → Int64)) := f259_4 pm_FU x1 0 0 I J
theorem d259_4 {X : (Nat → Int32) × Nat} {d : Nat} {P : Nat → Nat → Value} {e r k r2 k2 : Nat}  (hw : pm_W P r k r2 k2)  : ∀ (fu : Nat) {y1 y2 y3 : Int32} {I : Nat → Nat → Int32} {J : Nat → Nat → Int64} {q : Int32 × (Nat → Nat → Int32) × (Nat → Nat → Int64)} (h : f259_4 fu y1 y2 y3 I J = some q), pm_Fx X (d) 259 4 [.ref 127, .int y1, .int y2, .int y3] [] (I, J, P, pm_T0, e) (.inl (some (.int q.1))) (q.2.1, q.2.2, P, pm_T0, e) := by
  obtain ⟨hp, hw1, hw2, hw3, hw4, hw5, hw6, hw7, hw8, hw9, hw10, hw11⟩ := id hw
  have hwa := hw5.1
  have hwb := hw6.1
  have hwc := hw7.1
  have hwd := hw8.1
  intro fu
  induction fu with
  | zero => intro y1 y2 y3 I J q h; cases h
  | succ fu ih =>
    intro y1 y2 y3 I J q h
    rw [f259_4] at h
    refine il3 c259_4 ?_
    refine al0 c259_5 ?_
    refine r_gi g259_6 (by first | rfl | assumption) rfl ?_
    refine r_icge (t := 51) c259_9 rfl (fun h1 => ?_) (fun h1 => ?_)
    · rw [if_neg (Int.not_lt.mpr h1)] at h
      refine il2 c259_51 ?_
      cases h
      exact r_ri c259_52 rt259 rfl rfl
    · rw [if_pos h1] at h
      refine il2 c259_12 ?_
      refine al0 c259_13 ?_
      refine r_gr g259_14 rfl rfl (hp _ _ _ rfl) ?_
      refine r_ic c259_17 kI0 ?_
      refine il3 c259_18 ?_
      refine r_iadd c259_19 ?_
      obtain ⟨gd2, h⟩ := pm_gd_sp h
      refine w_ia c259_20 (by first | rfl | assumption) gd2 ?_
      refine r_ic c259_21 kI2 ?_
      refine r_icne (t := 42) c259_22 rfl (fun h3 => ?_) (fun h3 => ?_)
      · rw [if_neg h3] at h
        refine r_ic c259_42 kI0 ?_
        refine r_iadd c259_43 ?_
        refine is2 c259_44 rfl ?_
        refine ii3 c259_45 kI1 rfl ?_
        refine r_go (t := 4) c259_48 rfl ?_
        exact ih h
      · rw [if_pos h3] at h
        refine al0 c259_25 ?_
        refine r_gr g259_26 rfl rfl (hp _ _ _ rfl) ?_
        refine r_bi c259_29 kB8 ?_
        refine il3 c259_31 ?_
        refine r_iadd c259_32 ?_
        obtain ⟨gd4, h⟩ := pm_gd_sp h
        refine w_ia c259_33 (by first | rfl | assumption) gd4 ?_
        refine il1 c259_34 ?_
        refine r_icne (t := 42) c259_35 rfl (fun h5 => ?_) (fun h5 => ?_)
        · rw [if_neg h5] at h
          refine r_ic c259_42 kI0 ?_
          refine r_iadd c259_43 ?_
          refine is2 c259_44 rfl ?_
          refine ii3 c259_45 kI1 rfl ?_
          refine r_go (t := 4) c259_48 rfl ?_
          exact ih h
        · rw [if_pos h5] at h
          refine r_ic c259_38 kI1 ?_
          refine r_go (t := 43) c259_39 rfl ?_
          refine r_iadd c259_43 ?_
          refine is2 c259_44 rfl ?_
          refine ii3 c259_45 kI1 rfl ?_
          refine r_go (t := 4) c259_48 rfl ?_
          exact ih h
theorem d259 {X : (Nat → Int32) × Nat} {d : Nat} {I : Nat → Nat → Int32} {J : Nat → Nat → Int64} {P : Nat → Nat → Value} {e r k r2 k2 : Nat} {x1 : Int32} {q : Int32 × (Nat → Nat → Int32) × (Nat → Nat → Int64)} (hw : pm_W P r k r2 k2)  (h : f259 x1 I J = some q) : pm_Fn X (d) 259 1 [.ref 127, .int x1] (I, J, P, pm_T0, e) (.inl (some (.int q.1))) (q.2.1, q.2.2, P, pm_T0, e) := by
  obtain ⟨hp, hw1, hw2, hw3, hw4, hw5, hw6, hw7, hw8, hw9, hw10, hw11⟩ := id hw
  have hwa := hw5.1
  have hwb := hw6.1
  have hwc := hw7.1
  have hwd := hw8.1
  unfold f259 at h
  refine fn_v rc259 (c := 12) (nf := 59) (by first | rfl | assumption) ml259 rfl rfl rfl rfl ?_
  refine r_ic c259_0 kI0 ?_
  refine is2 c259_1 rfl ?_
  refine r_ic c259_2 kI0 ?_
  refine is3 c259_3 rfl ?_
  exact d259_4 hw pm_FU h
def f258 (x1 : Int32) (x2 : Int32) (I : Nat → Nat → Int32) (J : Nat → Nat → Int64) : Option (Bool × (Nat → Nat → Int32) × (Nat → Nat → Int64)) := pm_gd (pm_in (0 + x1) 66) ((if (I 144 (0 + x1).toNatClampNeg) = 1 then (f259 x2 I J).bind (fun (ov3, I4, J5) => pm_gd (pm_in ((3 * x2) + 2) 15) ((if ov3.toInt < (I4 133 ((3 * x2) + 2).toNatClampNeg).toInt then pm_gd (pm_in (0 + x1) 66) (pm_lt (pm_w I4 144 (0 + x1).toNatClampNeg 2) (fun I10 => pm_gd (pm_in (8 + x1) 66) (pm_lt (pm_w I10 144 (8 + x1).toNatClampNeg x2) (fun I12 => pm_gd (pm_in (16 + x1) 66) (pm_lt (pm_w I12 144 (16 + x1).toNatClampNeg 0) (fun I14 => pm_gd (pm_in 64 66) (pm_gd (pm_in (48 + x1) 66) (pm_lt (pm_w I14 144 (48 + x1).toNatClampNeg (I14 144 (64 : Int32).toNatClampNeg)) (fun I17 => some (true, I17, J5)))))))))) else some (false, I4, J5)))) else some (false, I, J)))
theorem d258 {X : (Nat → Int32) × Nat} {d : Nat} {I : Nat → Nat → Int32} {J : Nat → Nat → Int64} {P : Nat → Nat → Value} {e r k r2 k2 : Nat} {x1 : Int32} {x2 : Int32} {q : Bool × (Nat → Nat → Int32) × (Nat → Nat → Int64)} (hw : pm_W P r k r2 k2)  (h : f258 x1 x2 I J = some q) : pm_Fn X (d + 1) 258 1 [.ref 127, .int x1, .int x2] (I, J, P, pm_T0, e) (.inl (some (.int (pm_bi q.1)))) (q.2.1, q.2.2, P, pm_T0, e) := by
  obtain ⟨hp, hw1, hw2, hw3, hw4, hw5, hw6, hw7, hw8, hw9, hw10, hw11⟩ := id hw
  have hwa := hw5.1
  have hwb := hw6.1
  have hwc := hw7.1
  have hwd := hw8.1
  unfold f258 at h
  refine fn_v rc258 (c := 12) (nf := 59) (by first | rfl | assumption) ml258 rfl rfl rfl rfl ?_
  refine al0 c258_0 ?_
  refine r_gr g258_1 rfl rfl (hp _ _ _ rfl) ?_
  refine r_ic c258_4 kI0 ?_
  refine il1 c258_5 ?_
  refine r_iadd c258_6 ?_
  obtain ⟨gd1, h⟩ := pm_gd_sp h
  refine w_ia c258_7 (by first | rfl | assumption) gd1 ?_
  refine r_ic c258_8 kI1 ?_
  refine r_icne (t := 30) c258_9 rfl (fun h2 => ?_) (fun h2 => ?_)
  · rw [if_neg h2] at h
    refine r_ic c258_30 kI0 ?_
    cases h
    exact r_rz c258_31 rt258 (by decide) rfl rfl
  · rw [if_pos h2] at h
    refine al0 c258_12 ?_
    refine il2 c258_13 ?_
    obtain ⟨⟨ov3, I4, J5⟩, e6, h⟩ := pm_bd_sp h
    dsimp only at h
    refine cv2 q258_14 (v := .int ov3) (μ1 := (I4, J5, P, pm_T0, e)) (d259 hw e6) rfl ?_
    refine al0 c258_17 ?_
    refine r_gr g258_18 rfl rfl (hp _ _ _ rfl) ?_
    refine r_ic c258_21 kI3 ?_
    refine il2 c258_22 ?_
    refine r_imul c258_23 ?_
    refine r_ic c258_24 kI2 ?_
    refine r_iadd c258_25 ?_
    obtain ⟨gd7, h⟩ := pm_gd_sp h
    refine w_ia c258_26 (by first | rfl | assumption) gd7 ?_
    refine r_iclt (t := 32) c258_27 rfl (fun h8 => ?_) (fun h8 => ?_)
    · rw [if_pos h8] at h
      refine al0 c258_32 ?_
      refine r_gr g258_33 rfl rfl (hp _ _ _ rfl) ?_
      refine r_ic c258_36 kI0 ?_
      refine il1 c258_37 ?_
      refine r_iadd c258_38 ?_
      refine r_ic c258_39 kI2 ?_
      obtain ⟨gd9, h⟩ := pm_gd_sp h
      refine w_ist c258_40 (by first | rfl | assumption) gd9 ?_
      rw [pm_lt_eq] at h
      generalize pm_w I4 144 (0 + x1).toNatClampNeg 2 = I10 at h ⊢
      refine al0 c258_41 ?_
      refine r_gr g258_42 rfl rfl (hp _ _ _ rfl) ?_
      refine r_bi c258_45 kB8 ?_
      refine il1 c258_47 ?_
      refine r_iadd c258_48 ?_
      refine il2 c258_49 ?_
      obtain ⟨gd11, h⟩ := pm_gd_sp h
      refine w_ist c258_50 (by first | rfl | assumption) gd11 ?_
      rw [pm_lt_eq] at h
      generalize pm_w I10 144 (8 + x1).toNatClampNeg x2 = I12 at h ⊢
      refine al0 c258_51 ?_
      refine r_gr g258_52 rfl rfl (hp _ _ _ rfl) ?_
      refine r_bi c258_55 kB16 ?_
      refine il1 c258_57 ?_
      refine r_iadd c258_58 ?_
      refine r_ic c258_59 kI0 ?_
      obtain ⟨gd13, h⟩ := pm_gd_sp h
      refine w_ist c258_60 (by first | rfl | assumption) gd13 ?_
      rw [pm_lt_eq] at h
      generalize pm_w I12 144 (16 + x1).toNatClampNeg 0 = I14 at h ⊢
      refine al0 c258_61 ?_
      refine r_gr g258_62 rfl rfl (hp _ _ _ rfl) ?_
      refine r_bi c258_65 kB48 ?_
      refine il1 c258_67 ?_
      refine r_iadd c258_68 ?_
      refine al0 c258_69 ?_
      refine r_gr g258_70 rfl rfl (hp _ _ _ rfl) ?_
      refine r_bi c258_73 kB64 ?_
      obtain ⟨gd15, h⟩ := pm_gd_sp h
      refine w_ia c258_75 (by first | rfl | assumption) gd15 ?_
      obtain ⟨gd16, h⟩ := pm_gd_sp h
      refine w_ist c258_76 (by first | rfl | assumption) gd16 ?_
      rw [pm_lt_eq] at h
      generalize pm_w I14 144 (48 + x1).toNatClampNeg (I14 144 (64 : Int32).toNatClampNeg) = I17 at h ⊢
      refine r_ic c258_77 kI1 ?_
      cases h
      exact r_rz c258_78 rt258 (by decide) rfl rfl
    · rw [if_neg (Int.not_lt.mpr h8)] at h
      refine r_ic c258_30 kI0 ?_
      cases h
      exact r_rz c258_31 rt258 (by decide) rfl rfl
def f260 (x1 : Int32) (x2 : Int32) (I : Nat → Nat → Int32) (J : Nat → Nat → Int64) : Option (Bool × (Nat → Nat → Int32) × (Nat → Nat → Int64)) := pm_gd (pm_in (0 + x1) 66) ((if (I 144 (0 + x1).toNatClampNeg) = 3 then some (false, I, J) else pm_gd (pm_in (40 + x1) 66) ((if (I 144 (40 + x1).toNatClampNeg) = x2 then some (false, I, J) else pm_gd (pm_in (40 + x1) 66) (pm_lt (pm_w I 144 (40 + x1).toNatClampNeg x2) (fun I6 => some (true, I6, J)))))))
theorem d260 {X : (Nat → Int32) × Nat} {d : Nat} {I : Nat → Nat → Int32} {J : Nat → Nat → Int64} {P : Nat → Nat → Value} {e r k r2 k2 : Nat} {x1 : Int32} {x2 : Int32} {q : Bool × (Nat → Nat → Int32) × (Nat → Nat → Int64)} (hw : pm_W P r k r2 k2)  (h : f260 x1 x2 I J = some q) : pm_Fn X (d) 260 1 [.ref 127, .int x1, .int x2] (I, J, P, pm_T0, e) (.inl (some (.int (pm_bi q.1)))) (q.2.1, q.2.2, P, pm_T0, e) := by
  obtain ⟨hp, hw1, hw2, hw3, hw4, hw5, hw6, hw7, hw8, hw9, hw10, hw11⟩ := id hw
  have hwa := hw5.1
  have hwb := hw6.1
  have hwc := hw7.1
  have hwd := hw8.1
  unfold f260 at h
  refine fn_v rc260 (c := 12) (nf := 59) (by first | rfl | assumption) ml260 rfl rfl rfl rfl ?_
  refine al0 c260_0 ?_
  refine r_gr g260_1 rfl rfl (hp _ _ _ rfl) ?_
  refine r_ic c260_4 kI0 ?_
  refine il1 c260_5 ?_
  refine r_iadd c260_6 ?_
  obtain ⟨gd1, h⟩ := pm_gd_sp h
  refine w_ia c260_7 (by first | rfl | assumption) gd1 ?_
  refine r_ic c260_8 kI3 ?_
  refine r_iceq (t := 25) c260_9 rfl (fun h2 => ?_) (fun h2 => ?_)
  · rw [if_pos h2] at h
    refine r_ic c260_25 kI0 ?_
    cases h
    exact r_rz c260_26 rt260 (by decide) rfl rfl
  · rw [if_neg h2] at h
    refine al0 c260_12 ?_
    refine r_gr g260_13 rfl rfl (hp _ _ _ rfl) ?_
    refine r_bi c260_16 kB40 ?_
    refine il1 c260_18 ?_
    refine r_iadd c260_19 ?_
    obtain ⟨gd3, h⟩ := pm_gd_sp h
    refine w_ia c260_20 (by first | rfl | assumption) gd3 ?_
    refine il2 c260_21 ?_
    refine r_icne (t := 27) c260_22 rfl (fun h4 => ?_) (fun h4 => ?_)
    · rw [if_neg h4] at h
      refine al0 c260_27 ?_
      refine r_gr g260_28 rfl rfl (hp _ _ _ rfl) ?_
      refine r_bi c260_31 kB40 ?_
      refine il1 c260_33 ?_
      refine r_iadd c260_34 ?_
      refine il2 c260_35 ?_
      obtain ⟨gd5, h⟩ := pm_gd_sp h
      refine w_ist c260_36 (by first | rfl | assumption) gd5 ?_
      rw [pm_lt_eq] at h
      generalize pm_w I 144 (40 + x1).toNatClampNeg x2 = I6 at h ⊢
      refine r_ic c260_37 kI1 ?_
      cases h
      exact r_rz c260_38 rt260 (by decide) rfl rfl
    · rw [if_pos h4] at h
      refine r_ic c260_25 kI0 ?_
      cases h
      exact r_rz c260_26 rt260 (by decide) rfl rfl
def f267 (x1 : Int32) (x2 : Int32) (I : Nat → Nat → Int32) (J : Nat → Nat → Int64) : Option (Bool × (Nat → Nat → Int32) × (Nat → Nat → Int64)) := (if x1 = x2 then some (false, I, J) else pm_gd (pm_in ((4 * x1) + 2) 32) ((if 0 < (I 132 ((4 * x1) + 2).toNatClampNeg).toInt then pm_gd (pm_in ((4 * x1) + 2) 32) (pm_gd (pm_in ((4 * x2) + 2) 32) ((if (I 132 ((4 * x1) + 2).toNatClampNeg) = (I 132 ((4 * x2) + 2).toNatClampNeg) then some (true, I, J) else some (false, I, J)))) else some (false, I, J))))
theorem d267 {X : (Nat → Int32) × Nat} {d : Nat} {I : Nat → Nat → Int32} {J : Nat → Nat → Int64} {P : Nat → Nat → Value} {e r k r2 k2 : Nat} {x1 : Int32} {x2 : Int32} {q : Bool × (Nat → Nat → Int32) × (Nat → Nat → Int64)} (hw : pm_W P r k r2 k2)  (h : f267 x1 x2 I J = some q) : pm_Fn X (d) 267 1 [.ref 127, .int x1, .int x2] (I, J, P, pm_T0, e) (.inl (some (.int (pm_bi q.1)))) (q.2.1, q.2.2, P, pm_T0, e) := by
  obtain ⟨hp, hw1, hw2, hw3, hw4, hw5, hw6, hw7, hw8, hw9, hw10, hw11⟩ := id hw
  have hwa := hw5.1
  have hwb := hw6.1
  have hwc := hw7.1
  have hwd := hw8.1
  unfold f267 at h
  refine fn_v rc267 (c := 12) (nf := 59) (by first | rfl | assumption) ml267 rfl rfl rfl rfl ?_
  refine il1 c267_0 ?_
  refine il2 c267_1 ?_
  refine r_iceq (t := 45) c267_2 rfl (fun h1 => ?_) (fun h1 => ?_)
  · rw [if_pos h1] at h
    refine r_ic c267_45 kI0 ?_
    cases h
    exact r_rz c267_46 rt267 (by decide) rfl rfl
  · rw [if_neg h1] at h
    refine al0 c267_5 ?_
    refine r_gr g267_6 rfl rfl (hp _ _ _ rfl) ?_
    refine r_ic c267_9 kI4 ?_
    refine il1 c267_10 ?_
    refine r_imul c267_11 ?_
    refine r_ic c267_12 kI2 ?_
    refine r_iadd c267_13 ?_
    obtain ⟨gd2, h⟩ := pm_gd_sp h
    refine w_ia c267_14 (by first | rfl | assumption) gd2 ?_
    refine r_ifle (t := 45) c267_15 rfl (fun h3 => ?_) (fun h3 => ?_)
    · rw [if_neg (Int.not_lt.mpr h3)] at h
      refine r_ic c267_45 kI0 ?_
      cases h
      exact r_rz c267_46 rt267 (by decide) rfl rfl
    · rw [if_pos h3] at h
      refine al0 c267_18 ?_
      refine r_gr g267_19 rfl rfl (hp _ _ _ rfl) ?_
      refine r_ic c267_22 kI4 ?_
      refine il1 c267_23 ?_
      refine r_imul c267_24 ?_
      refine r_ic c267_25 kI2 ?_
      refine r_iadd c267_26 ?_
      obtain ⟨gd4, h⟩ := pm_gd_sp h
      refine w_ia c267_27 (by first | rfl | assumption) gd4 ?_
      refine al0 c267_28 ?_
      refine r_gr g267_29 rfl rfl (hp _ _ _ rfl) ?_
      refine r_ic c267_32 kI4 ?_
      refine il2 c267_33 ?_
      refine r_imul c267_34 ?_
      refine r_ic c267_35 kI2 ?_
      refine r_iadd c267_36 ?_
      obtain ⟨gd5, h⟩ := pm_gd_sp h
      refine w_ia c267_37 (by first | rfl | assumption) gd5 ?_
      refine r_icne (t := 45) c267_38 rfl (fun h6 => ?_) (fun h6 => ?_)
      · rw [if_neg h6] at h
        refine r_ic c267_45 kI0 ?_
        cases h
        exact r_rz c267_46 rt267 (by decide) rfl rfl
      · rw [if_pos h6] at h
        refine r_ic c267_41 kI1 ?_
        refine r_go (t := 46) c267_42 rfl ?_
        cases h
        exact r_rz c267_46 rt267 (by decide) rfl rfl
def f266_4  : Nat → Int32 → Int32 → Int32 → (Nat → Nat → Int32) → (Nat → Nat → Int64) → Option (Int32 × (Nat → Nat → Int32) × (Nat → Nat → Int64))
  | 0, _, _, _, _, _ => none
  | fu + 1, y1, y2, y3, I, J => (if y3.toInt < (I 127 18).toInt then (f267 y1 y3 I J).bind (fun (ov2, I3, J4) => (if ov2 = true then f266_4 fu y1 (y2 + 1) (y3 + 1) I3 J4 else f266_4 fu y1 (y2 + 0) (y3 + 1) I3 J4)) else some (y2, I, J))
def f266 (x1 : Int32) (I : Nat → Nat → Int32) (J : Nat → Nat → Int64) : Option (Int32 × (Nat → Nat → Int32) × (Nat → Nat → Int64)) := f266_4 pm_FU x1 0 0 I J
theorem d266_4 {X : (Nat → Int32) × Nat} {d : Nat} {P : Nat → Nat → Value} {e r k r2 k2 : Nat}  (hw : pm_W P r k r2 k2)  : ∀ (fu : Nat) {y1 y2 y3 : Int32} {I : Nat → Nat → Int32} {J : Nat → Nat → Int64} {q : Int32 × (Nat → Nat → Int32) × (Nat → Nat → Int64)} (h : f266_4 fu y1 y2 y3 I J = some q), pm_Fx X (d + 1) 266 4 [.ref 127, .int y1, .int y2, .int y3] [] (I, J, P, pm_T0, e) (.inl (some (.int q.1))) (q.2.1, q.2.2, P, pm_T0, e) := by
  obtain ⟨hp, hw1, hw2, hw3, hw4, hw5, hw6, hw7, hw8, hw9, hw10, hw11⟩ := id hw
  have hwa := hw5.1
  have hwb := hw6.1
  have hwc := hw7.1
  have hwd := hw8.1
  intro fu
  induction fu with
  | zero => intro y1 y2 y3 I J q h; cases h
  | succ fu ih =>
    intro y1 y2 y3 I J q h
    rw [f266_4] at h
    refine il3 c266_4 ?_
    refine al0 c266_5 ?_
    refine r_gi g266_6 (by first | rfl | assumption) rfl ?_
    refine r_icge (t := 35) c266_9 rfl (fun h1 => ?_) (fun h1 => ?_)
    · rw [if_neg (Int.not_lt.mpr h1)] at h
      refine il2 c266_35 ?_
      cases h
      exact r_ri c266_36 rt266 rfl rfl
    · rw [if_pos h1] at h
      refine il2 c266_12 ?_
      refine al0 c266_13 ?_
      refine il1 c266_14 ?_
      refine il3 c266_15 ?_
      obtain ⟨⟨ov2, I3, J4⟩, e5, h⟩ := pm_bd_sp h
      dsimp only at h
      refine cv3 q266_16 (v := .int (pm_bi ov2)) (μ1 := (I3, J4, P, pm_T0, e)) (d267 hw e5) rfl ?_
      refine r_ifeq (t := 26) c266_19 rfl (fun h6 => ?_) (fun h6 => ?_)
      · rw [if_neg (pm_bf h6)] at h
        refine r_ic c266_26 kI0 ?_
        refine r_iadd c266_27 ?_
        refine is2 c266_28 rfl ?_
        refine ii3 c266_29 kI1 rfl ?_
        refine r_go (t := 4) c266_32 rfl ?_
        exact ih h
      · rw [if_pos (pm_bt h6)] at h
        refine r_ic c266_22 kI1 ?_
        refine r_go (t := 27) c266_23 rfl ?_
        refine r_iadd c266_27 ?_
        refine is2 c266_28 rfl ?_
        refine ii3 c266_29 kI1 rfl ?_
        refine r_go (t := 4) c266_32 rfl ?_
        exact ih h
theorem d266 {X : (Nat → Int32) × Nat} {d : Nat} {I : Nat → Nat → Int32} {J : Nat → Nat → Int64} {P : Nat → Nat → Value} {e r k r2 k2 : Nat} {x1 : Int32} {q : Int32 × (Nat → Nat → Int32) × (Nat → Nat → Int64)} (hw : pm_W P r k r2 k2)  (h : f266 x1 I J = some q) : pm_Fn X (d + 1) 266 1 [.ref 127, .int x1] (I, J, P, pm_T0, e) (.inl (some (.int q.1))) (q.2.1, q.2.2, P, pm_T0, e) := by
  obtain ⟨hp, hw1, hw2, hw3, hw4, hw5, hw6, hw7, hw8, hw9, hw10, hw11⟩ := id hw
  have hwa := hw5.1
  have hwb := hw6.1
  have hwc := hw7.1
  have hwd := hw8.1
  unfold f266 at h
  refine fn_v rc266 (c := 12) (nf := 59) (by first | rfl | assumption) ml266 rfl rfl rfl rfl ?_
  refine r_ic c266_0 kI0 ?_
  refine is2 c266_1 rfl ?_
  refine r_ic c266_2 kI0 ?_
  refine is3 c266_3 rfl ?_
  exact d266_4 hw pm_FU h
def f270 (x0 : Int32) (x1 : Int32) (x2 : Int32) (I : Nat → Nat → Int32) (J : Nat → Nat → Int64) : Option (Int32 × (Nat → Nat → Int32) × (Nat → Nat → Int64)) := (if x0 = 2 then some (x1 + x2, I, J) else (if x0 = 3 then some (x1 - x2, I, J) else (if x0 = 4 then some (x1 * x2, I, J) else (if x0 = 5 then (if x2 = 0 then some (0, I, J) else pm_gd (!decide (x2 = 0)) (some (x1 / x2, I, J))) else (if x1.toInt < x2.toInt then (if x0 = 6 then (if (1 : Int32) = 1 then some (x1, I, J) else some (x2, I, J)) else (if (1 : Int32) = 0 then some (x1, I, J) else some (x2, I, J))) else (if x0 = 6 then (if (0 : Int32) = 1 then some (x1, I, J) else some (x2, I, J)) else (if (0 : Int32) = 0 then some (x1, I, J) else some (x2, I, J))))))))
theorem d270 {X : (Nat → Int32) × Nat} {d : Nat} {I : Nat → Nat → Int32} {J : Nat → Nat → Int64} {P : Nat → Nat → Value} {e r k r2 k2 : Nat} {x0 : Int32} {x1 : Int32} {x2 : Int32} {q : Int32 × (Nat → Nat → Int32) × (Nat → Nat → Int64)} (hw : pm_W P r k r2 k2)  (h : f270 x0 x1 x2 I J = some q) : pm_Fn X (d) 270 0 [.int x0, .int x1, .int x2] (I, J, P, pm_T0, e) (.inl (some (.int q.1))) (q.2.1, q.2.2, P, pm_T0, e) := by
  obtain ⟨hp, hw1, hw2, hw3, hw4, hw5, hw6, hw7, hw8, hw9, hw10, hw11⟩ := id hw
  have hwa := hw5.1
  have hwb := hw6.1
  have hwc := hw7.1
  have hwd := hw8.1
  unfold f270 at h
  refine fn_s ml270 rfl rfl rfl ?_
  refine il0 c270_0 ?_
  refine r_ic c270_1 kI2 ?_
  refine r_icne (t := 9) c270_2 rfl (fun h1 => ?_) (fun h1 => ?_)
  · rw [if_neg h1] at h
    refine il0 c270_9 ?_
    refine r_ic c270_10 kI3 ?_
    refine r_icne (t := 18) c270_11 rfl (fun h2 => ?_) (fun h2 => ?_)
    · rw [if_neg h2] at h
      refine il0 c270_18 ?_
      refine r_ic c270_19 kI4 ?_
      refine r_icne (t := 27) c270_20 rfl (fun h3 => ?_) (fun h3 => ?_)
      · rw [if_neg h3] at h
        refine il0 c270_27 ?_
        refine r_ic c270_28 kI5 ?_
        refine r_icne (t := 44) c270_29 rfl (fun h4 => ?_) (fun h4 => ?_)
        · rw [if_neg h4] at h
          refine il1 c270_44 ?_
          refine il2 c270_45 ?_
          refine r_icge (t := 53) c270_46 rfl (fun h5 => ?_) (fun h5 => ?_)
          · rw [if_neg (Int.not_lt.mpr h5)] at h
            refine r_ic c270_53 kI0 ?_
            refine il0 c270_54 ?_
            refine r_bi c270_55 kB6 ?_
            refine r_icne (t := 64) c270_57 rfl (fun h6 => ?_) (fun h6 => ?_)
            · rw [if_neg h6] at h
              refine r_ic c270_64 kI0 ?_
              refine r_icne (t := 72) c270_65 rfl (fun h7 => ?_) (fun h7 => ?_)
              · rw [if_neg h7] at h
                refine il2 c270_72 ?_
                cases h
                exact r_ri c270_73 rt270 rfl rfl
              · rw [if_pos h7] at h
                refine il1 c270_68 ?_
                refine r_go (t := 73) c270_69 rfl ?_
                cases h
                exact r_ri c270_73 rt270 rfl rfl
            · rw [if_pos h6] at h
              refine r_ic c270_60 kI1 ?_
              refine r_go (t := 65) c270_61 rfl ?_
              refine r_icne (t := 72) c270_65 rfl (fun h8 => ?_) (fun h8 => ?_)
              · rw [if_neg h8] at h
                refine il2 c270_72 ?_
                cases h
                exact r_ri c270_73 rt270 rfl rfl
              · rw [if_pos h8] at h
                refine il1 c270_68 ?_
                refine r_go (t := 73) c270_69 rfl ?_
                cases h
                exact r_ri c270_73 rt270 rfl rfl
          · rw [if_pos h5] at h
            refine r_ic c270_49 kI1 ?_
            refine r_go (t := 54) c270_50 rfl ?_
            refine il0 c270_54 ?_
            refine r_bi c270_55 kB6 ?_
            refine r_icne (t := 64) c270_57 rfl (fun h9 => ?_) (fun h9 => ?_)
            · rw [if_neg h9] at h
              refine r_ic c270_64 kI0 ?_
              refine r_icne (t := 72) c270_65 rfl (fun h10 => ?_) (fun h10 => ?_)
              · rw [if_neg h10] at h
                refine il2 c270_72 ?_
                cases h
                exact r_ri c270_73 rt270 rfl rfl
              · rw [if_pos h10] at h
                refine il1 c270_68 ?_
                refine r_go (t := 73) c270_69 rfl ?_
                cases h
                exact r_ri c270_73 rt270 rfl rfl
            · rw [if_pos h9] at h
              refine r_ic c270_60 kI1 ?_
              refine r_go (t := 65) c270_61 rfl ?_
              refine r_icne (t := 72) c270_65 rfl (fun h11 => ?_) (fun h11 => ?_)
              · rw [if_neg h11] at h
                refine il2 c270_72 ?_
                cases h
                exact r_ri c270_73 rt270 rfl rfl
              · rw [if_pos h11] at h
                refine il1 c270_68 ?_
                refine r_go (t := 73) c270_69 rfl ?_
                cases h
                exact r_ri c270_73 rt270 rfl rfl
        · rw [if_pos h4] at h
          refine il2 c270_32 ?_
          refine r_ifne (t := 40) c270_33 rfl (fun h12 => ?_) (fun h12 => ?_)
          · rw [if_neg h12] at h
            refine il1 c270_40 ?_
            refine il2 c270_41 ?_
            obtain ⟨gd13, h⟩ := pm_gd_sp h
            refine r_idiv c270_42 (by simpa using gd13) ?_
            cases h
            exact r_ri c270_43 rt270 rfl rfl
          · rw [if_pos h12] at h
            refine r_ic c270_36 kI0 ?_
            refine r_go (t := 43) c270_37 rfl ?_
            cases h
            exact r_ri c270_43 rt270 rfl rfl
      · rw [if_pos h3] at h
        refine il1 c270_23 ?_
        refine il2 c270_24 ?_
        refine r_imul c270_25 ?_
        cases h
        exact r_ri c270_26 rt270 rfl rfl
    · rw [if_pos h2] at h
      refine il1 c270_14 ?_
      refine il2 c270_15 ?_
      refine r_isub c270_16 ?_
      cases h
      exact r_ri c270_17 rt270 rfl rfl
  · rw [if_pos h1] at h
    refine il1 c270_5 ?_
    refine il2 c270_6 ?_
    refine r_iadd c270_7 ?_
    cases h
    exact r_ri c270_8 rt270 rfl rfl
def f269_8  : Nat → Int32 → Int32 → Int32 → (Nat → Nat → Int32) → (Nat → Nat → Int64) → Option (Int32 × (Nat → Nat → Int32) × (Nat → Nat → Int64))
  | 0, _, _, _, _, _ => none
  | fu + 1, y1, y2, y3, I, J => pm_gd (pm_in y1 2) ((if y3.toInt < ((150 * y1) + (I 138 (y1).toNatClampNeg)).toInt then pm_gd (pm_in y3 300) ((if (1 : Int32).toInt < (I 136 (y3).toNatClampNeg).toInt then pm_gd (pm_in ((y2 + (-1)) - 1) 150) (pm_gd (pm_in (y2 + (-1)) 150) ((f270 (I 136 (y3).toNatClampNeg) (I 139 ((y2 + (-1)) - 1).toNatClampNeg) (I 139 (y2 + (-1)).toNatClampNeg) I J).bind (fun (ov8, I9, J10) => pm_gd (pm_in ((y2 + (-1)) - 1) 150) (pm_lt (pm_w I9 139 ((y2 + (-1)) - 1).toNatClampNeg ov8) (fun I13 => f269_8 fu y1 (y2 + (-1)) (y3 + 1) I13 J10))))) else (if (I 136 (y3).toNatClampNeg) = 0 then pm_gd (pm_in y3 300) (pm_gd (pm_in y2 150) (pm_lt (pm_w I 139 (y2).toNatClampNeg (I 137 (y3).toNatClampNeg)) (fun I21 => f269_8 fu y1 (y2 + 1) (y3 + 1) I21 J))) else pm_gd (pm_in y3 300) (pm_gd (pm_in (I 137 (y3).toNatClampNeg) 8) (pm_gd (pm_in y2 150) (pm_lt (pm_w I 139 (y2).toNatClampNeg (I 140 (I 137 (y3).toNatClampNeg).toNatClampNeg)) (fun I18 => f269_8 fu y1 (y2 + 1) (y3 + 1) I18 J))))))) else pm_gd (pm_in 0 150) (some (I 139 (0 : Int32).toNatClampNeg, I, J))))
def f269 (x1 : Int32) (I : Nat → Nat → Int32) (J : Nat → Nat → Int64) : Option (Int32 × (Nat → Nat → Int32) × (Nat → Nat → Int64)) := f269_8 pm_FU x1 0 (150 * x1) I J
theorem d269_8 {X : (Nat → Int32) × Nat} {d : Nat} {P : Nat → Nat → Value} {e r k r2 k2 : Nat}  (hw : pm_W P r k r2 k2)  : ∀ (fu : Nat) {y1 y2 y3 : Int32} {I : Nat → Nat → Int32} {J : Nat → Nat → Int64} {q : Int32 × (Nat → Nat → Int32) × (Nat → Nat → Int64)} {z4 : Value} (h : f269_8 fu y1 y2 y3 I J = some q), pm_Fx X (d + 1) 269 8 [.ref 127, .int y1, .int y2, .int y3, z4] [] (I, J, P, pm_T0, e) (.inl (some (.int q.1))) (q.2.1, q.2.2, P, pm_T0, e) := by
  obtain ⟨hp, hw1, hw2, hw3, hw4, hw5, hw6, hw7, hw8, hw9, hw10, hw11⟩ := id hw
  have hwa := hw5.1
  have hwb := hw6.1
  have hwc := hw7.1
  have hwd := hw8.1
  intro fu
  induction fu with
  | zero => intro y1 y2 y3 I J q z4 h; cases h
  | succ fu ih =>
    intro y1 y2 y3 I J q z4 h
    rw [f269_8] at h
    refine il3 c269_8 ?_
    refine r_si c269_9 kS150 ?_
    refine il1 c269_12 ?_
    refine r_imul c269_13 ?_
    refine al0 c269_14 ?_
    refine r_gr g269_15 rfl rfl (hp _ _ _ rfl) ?_
    refine il1 c269_18 ?_
    obtain ⟨gd1, h⟩ := pm_gd_sp h
    refine w_ia c269_19 (by first | rfl | assumption) gd1 ?_
    refine r_iadd c269_20 ?_
    refine r_icge (t := 111) c269_21 rfl (fun h2 => ?_) (fun h2 => ?_)
    · rw [if_neg (Int.not_lt.mpr h2)] at h
      refine al0 c269_111 ?_
      refine r_gr g269_112 rfl rfl (hp _ _ _ rfl) ?_
      refine r_ic c269_115 kI0 ?_
      obtain ⟨gd3, h⟩ := pm_gd_sp h
      refine w_ia c269_116 (by first | rfl | assumption) gd3 ?_
      cases h
      exact r_ri c269_117 rt269 rfl rfl
    · rw [if_pos h2] at h
      refine al0 c269_24 ?_
      refine r_gr g269_25 rfl rfl (hp _ _ _ rfl) ?_
      refine il3 c269_28 ?_
      obtain ⟨gd4, h⟩ := pm_gd_sp h
      refine w_ia c269_29 (by first | rfl | assumption) gd4 ?_
      refine is4 c269_30 rfl ?_
      refine il4 c269_32 ?_
      refine r_ic c269_34 kI1 ?_
      refine r_icgt (t := 75) c269_35 rfl (fun h5 => ?_) (fun h5 => ?_)
      · rw [if_pos h5] at h
        refine ii2 c269_75 kIm1 rfl ?_
        refine al0 c269_78 ?_
        refine r_gr g269_79 rfl rfl (hp _ _ _ rfl) ?_
        refine il2 c269_82 ?_
        refine r_ic c269_83 kI1 ?_
        refine r_isub c269_84 ?_
        refine il4 c269_85 ?_
        refine al0 c269_87 ?_
        refine r_gr g269_88 rfl rfl (hp _ _ _ rfl) ?_
        refine il2 c269_91 ?_
        refine r_ic c269_92 kI1 ?_
        refine r_isub c269_93 ?_
        obtain ⟨gd6, h⟩ := pm_gd_sp h
        refine w_ia c269_94 (by first | rfl | assumption) gd6 ?_
        refine al0 c269_95 ?_
        refine r_gr g269_96 rfl rfl (hp _ _ _ rfl) ?_
        refine il2 c269_99 ?_
        obtain ⟨gd7, h⟩ := pm_gd_sp h
        refine w_ia c269_100 (by first | rfl | assumption) gd7 ?_
        obtain ⟨⟨ov8, I9, J10⟩, e11, h⟩ := pm_bd_sp h
        dsimp only at h
        refine cv3 q269_101 (v := .int ov8) (μ1 := (I9, J10, P, pm_T0, e)) (d270 hw e11) rfl ?_
        obtain ⟨gd12, h⟩ := pm_gd_sp h
        refine w_ist c269_104 (by first | rfl | assumption) gd12 ?_
        rw [pm_lt_eq] at h
        generalize pm_w I9 139 ((y2 + (-1)) - 1).toNatClampNeg ov8 = I13 at h ⊢
        refine ii3 c269_105 kI1 rfl ?_
        refine r_go (t := 8) c269_108 rfl ?_
        exact ih h
      · rw [if_neg (Int.not_lt.mpr h5)] at h
        refine al0 c269_38 ?_
        refine r_gr g269_39 rfl rfl (hp _ _ _ rfl) ?_
        refine il2 c269_42 ?_
        refine il4 c269_43 ?_
        refine r_ifne (t := 57) c269_45 rfl (fun h14 => ?_) (fun h14 => ?_)
        · rw [if_neg h14] at h
          refine al0 c269_57 ?_
          refine r_gr g269_58 rfl rfl (hp _ _ _ rfl) ?_
          refine al0 c269_61 ?_
          refine r_gr g269_62 rfl rfl (hp _ _ _ rfl) ?_
          refine il3 c269_65 ?_
          obtain ⟨gd15, h⟩ := pm_gd_sp h
          refine w_ia c269_66 (by first | rfl | assumption) gd15 ?_
          obtain ⟨gd16, h⟩ := pm_gd_sp h
          refine w_ia c269_67 (by first | rfl | assumption) gd16 ?_
          obtain ⟨gd17, h⟩ := pm_gd_sp h
          refine w_ist c269_68 (by first | rfl | assumption) gd17 ?_
          rw [pm_lt_eq] at h
          generalize pm_w I 139 (y2).toNatClampNeg (I 140 (I 137 (y3).toNatClampNeg).toNatClampNeg) = I18 at h ⊢
          refine ii2 c269_69 kI1 rfl ?_
          refine r_go (t := 105) c269_72 rfl ?_
          refine ii3 c269_105 kI1 rfl ?_
          refine r_go (t := 8) c269_108 rfl ?_
          exact ih h
        · rw [if_pos h14] at h
          refine al0 c269_48 ?_
          refine r_gr g269_49 rfl rfl (hp _ _ _ rfl) ?_
          refine il3 c269_52 ?_
          obtain ⟨gd19, h⟩ := pm_gd_sp h
          refine w_ia c269_53 (by first | rfl | assumption) gd19 ?_
          refine r_go (t := 68) c269_54 rfl ?_
          obtain ⟨gd20, h⟩ := pm_gd_sp h
          refine w_ist c269_68 (by first | rfl | assumption) gd20 ?_
          rw [pm_lt_eq] at h
          generalize pm_w I 139 (y2).toNatClampNeg (I 137 (y3).toNatClampNeg) = I21 at h ⊢
          refine ii2 c269_69 kI1 rfl ?_
          refine r_go (t := 105) c269_72 rfl ?_
          refine ii3 c269_105 kI1 rfl ?_
          refine r_go (t := 8) c269_108 rfl ?_
          exact ih h
theorem d269 {X : (Nat → Int32) × Nat} {d : Nat} {I : Nat → Nat → Int32} {J : Nat → Nat → Int64} {P : Nat → Nat → Value} {e r k r2 k2 : Nat} {x1 : Int32} {q : Int32 × (Nat → Nat → Int32) × (Nat → Nat → Int64)} (hw : pm_W P r k r2 k2)  (h : f269 x1 I J = some q) : pm_Fn X (d + 1) 269 1 [.ref 127, .int x1] (I, J, P, pm_T0, e) (.inl (some (.int q.1))) (q.2.1, q.2.2, P, pm_T0, e) := by
  obtain ⟨hp, hw1, hw2, hw3, hw4, hw5, hw6, hw7, hw8, hw9, hw10, hw11⟩ := id hw
  have hwa := hw5.1
  have hwb := hw6.1
  have hwc := hw7.1
  have hwd := hw8.1
  unfold f269 at h
  refine fn_v rc269 (c := 12) (nf := 59) (by first | rfl | assumption) ml269 rfl rfl rfl rfl ?_
  refine r_ic c269_0 kI0 ?_
  refine is2 c269_1 rfl ?_
  refine r_si c269_2 kS150 ?_
  refine il1 c269_5 ?_
  refine r_imul c269_6 ?_
  refine is3 c269_7 rfl ?_
  exact d269_8 hw pm_FU h
def f268 (x1 : Int32) (I : Nat → Nat → Int32) (J : Nat → Nat → Int64) : Option (Int32 × (Nat → Nat → Int32) × (Nat → Nat → Int64)) := pm_gd (pm_in x1 2) ((if (I 138 (x1).toNatClampNeg) = 0 then pm_gd (pm_in 0 8) (pm_gd (pm_in 1 8) (pm_lt ((52 * (I 140 (0 : Int32).toNatClampNeg)) + (4 * (I 140 (1 : Int32).toNatClampNeg))) (fun u11 => (if u11.toInt < 0 then some (0, I, J) else (if (999 : Int32).toInt < u11.toInt then some (999, I, J) else some (u11, I, J)))))) else (f269 x1 I J).bind (fun (ov3, I4, J5) => (if ov3.toInt < 0 then some (0, I4, J5) else (if (999 : Int32).toInt < ov3.toInt then some (999, I4, J5) else some (ov3, I4, J5))))))
theorem d268 {X : (Nat → Int32) × Nat} {d : Nat} {I : Nat → Nat → Int32} {J : Nat → Nat → Int64} {P : Nat → Nat → Value} {e r k r2 k2 : Nat} {x1 : Int32} {q : Int32 × (Nat → Nat → Int32) × (Nat → Nat → Int64)} (hw : pm_W P r k r2 k2)  (h : f268 x1 I J = some q) : pm_Fn X (d + 2) 268 1 [.ref 127, .int x1] (I, J, P, pm_T0, e) (.inl (some (.int q.1))) (q.2.1, q.2.2, P, pm_T0, e) := by
  obtain ⟨hp, hw1, hw2, hw3, hw4, hw5, hw6, hw7, hw8, hw9, hw10, hw11⟩ := id hw
  have hwa := hw5.1
  have hwb := hw6.1
  have hwc := hw7.1
  have hwd := hw8.1
  unfold f268 at h
  refine fn_v rc268 (c := 12) (nf := 59) (by first | rfl | assumption) ml268 rfl rfl rfl rfl ?_
  refine al0 c268_0 ?_
  refine r_gr g268_1 rfl rfl (hp _ _ _ rfl) ?_
  refine il1 c268_4 ?_
  obtain ⟨gd1, h⟩ := pm_gd_sp h
  refine w_ia c268_5 (by first | rfl | assumption) gd1 ?_
  refine r_ifne (t := 30) c268_6 rfl (fun h2 => ?_) (fun h2 => ?_)
  · rw [if_neg h2] at h
    refine al0 c268_30 ?_
    refine il1 c268_31 ?_
    obtain ⟨⟨ov3, I4, J5⟩, e6, h⟩ := pm_bd_sp h
    dsimp only at h
    refine cv2 q268_32 (v := .int ov3) (μ1 := (I4, J5, P, pm_T0, e)) (d269 hw e6) rfl ?_
    refine is2 c268_35 rfl ?_
    refine il2 c268_36 ?_
    refine r_ifge (t := 44) c268_37 rfl (fun h7 => ?_) (fun h7 => ?_)
    · rw [if_neg (Int.not_lt.mpr h7)] at h
      refine il2 c268_44 ?_
      refine r_si c268_45 kS999 ?_
      refine r_icle (t := 57) c268_48 rfl (fun h8 => ?_) (fun h8 => ?_)
      · rw [if_neg (Int.not_lt.mpr h8)] at h
        refine il2 c268_57 ?_
        cases h
        exact r_ri c268_58 rt268 rfl rfl
      · rw [if_pos h8] at h
        refine r_si c268_51 kS999 ?_
        refine r_go (t := 58) c268_54 rfl ?_
        cases h
        exact r_ri c268_58 rt268 rfl rfl
    · rw [if_pos h7] at h
      refine r_ic c268_40 kI0 ?_
      refine r_go (t := 58) c268_41 rfl ?_
      cases h
      exact r_ri c268_58 rt268 rfl rfl
  · rw [if_pos h2] at h
    refine r_bi c268_9 kB52 ?_
    refine al0 c268_11 ?_
    refine r_gr g268_12 rfl rfl (hp _ _ _ rfl) ?_
    refine r_ic c268_15 kI0 ?_
    obtain ⟨gd9, h⟩ := pm_gd_sp h
    refine w_ia c268_16 (by first | rfl | assumption) gd9 ?_
    refine r_imul c268_17 ?_
    refine r_ic c268_18 kI4 ?_
    refine al0 c268_19 ?_
    refine r_gr g268_20 rfl rfl (hp _ _ _ rfl) ?_
    refine r_ic c268_23 kI1 ?_
    obtain ⟨gd10, h⟩ := pm_gd_sp h
    refine w_ia c268_24 (by first | rfl | assumption) gd10 ?_
    refine r_imul c268_25 ?_
    refine r_iadd c268_26 ?_
    refine r_go (t := 35) c268_27 rfl ?_
    refine is2 c268_35 rfl ?_
    rw [pm_lt_eq] at h
    generalize (52 * (I 140 (0 : Int32).toNatClampNeg)) + (4 * (I 140 (1 : Int32).toNatClampNeg)) = u11 at h ⊢
    refine il2 c268_36 ?_
    refine r_ifge (t := 44) c268_37 rfl (fun h12 => ?_) (fun h12 => ?_)
    · rw [if_neg (Int.not_lt.mpr h12)] at h
      refine il2 c268_44 ?_
      refine r_si c268_45 kS999 ?_
      refine r_icle (t := 57) c268_48 rfl (fun h13 => ?_) (fun h13 => ?_)
      · rw [if_neg (Int.not_lt.mpr h13)] at h
        refine il2 c268_57 ?_
        cases h
        exact r_ri c268_58 rt268 rfl rfl
      · rw [if_pos h13] at h
        refine r_si c268_51 kS999 ?_
        refine r_go (t := 58) c268_54 rfl ?_
        cases h
        exact r_ri c268_58 rt268 rfl rfl
    · rw [if_pos h12] at h
      refine r_ic c268_40 kI0 ?_
      refine r_go (t := 58) c268_41 rfl ?_
      cases h
      exact r_ri c268_58 rt268 rfl rfl
def f265 (x1 : Int32) (x2 : Int32) (x3 : Int32) (x4 : Int32) (I : Nat → Nat → Int32) (J : Nat → Nat → Int64) : Option (Int32 × (Nat → Nat → Int32) × (Nat → Nat → Int64)) := pm_gd (pm_in 0 8) (pm_lt (pm_w I 140 (0 : Int32).toNatClampNeg x3) (fun I2 => pm_gd (pm_in 1 8) (pm_lt (pm_w I2 140 (1 : Int32).toNatClampNeg x4) (fun I4 => pm_gd (pm_in ((4 * x1) + 1) 32) (pm_gd (pm_in 2 8) (pm_lt (pm_w I4 140 (2 : Int32).toNatClampNeg (I4 132 ((4 * x1) + 1).toNatClampNeg)) (fun I7 => pm_gd (pm_in (32 + x1) 66) (pm_gd (pm_in 3 8) (pm_lt (pm_w I7 140 (3 : Int32).toNatClampNeg (I7 144 (32 + x1).toNatClampNeg)) (fun I10 => (f266 x1 I10 J).bind (fun (ov11, I12, J13) => pm_gd (pm_in 4 8) (pm_lt (pm_w I12 140 (4 : Int32).toNatClampNeg ov11) (fun I16 => pm_gd (pm_in (40 + x1) 66) (pm_gd (pm_in 5 8) (pm_lt (pm_w I16 140 (5 : Int32).toNatClampNeg (I16 144 (40 + x1).toNatClampNeg)) (fun I19 => pm_gd (pm_in (48 + x1) 66) ((if (I19 144 (48 + x1).toNatClampNeg) = (-1) then pm_gd (pm_in 64 66) (pm_gd (pm_in 6 8) (pm_lt (pm_w I19 140 (6 : Int32).toNatClampNeg (I19 144 (64 : Int32).toNatClampNeg)) (fun I34 => pm_gd (pm_in 64 66) (pm_gd (pm_in 7 8) (pm_lt (pm_w I34 140 (7 : Int32).toNatClampNeg (I34 144 (64 : Int32).toNatClampNeg)) (fun I37 => (f268 x2 I37 J13).bind (fun (ov38, I39, J40) => some (ov38, I39, J40)))))))) else pm_gd (pm_in (48 + x1) 66) (pm_gd (pm_in 6 8) (pm_lt (pm_w I19 140 (6 : Int32).toNatClampNeg (I19 144 (48 + x1).toNatClampNeg)) (fun I24 => pm_gd (pm_in 64 66) (pm_gd (pm_in 7 8) (pm_lt (pm_w I24 140 (7 : Int32).toNatClampNeg (I24 144 (64 : Int32).toNatClampNeg)) (fun I27 => (f268 x2 I27 J13).bind (fun (ov28, I29, J30) => some (ov28, I29, J30))))))))))))))))))))))))))
theorem d265 {X : (Nat → Int32) × Nat} {d : Nat} {I : Nat → Nat → Int32} {J : Nat → Nat → Int64} {P : Nat → Nat → Value} {e r k r2 k2 : Nat} {x1 : Int32} {x2 : Int32} {x3 : Int32} {x4 : Int32} {q : Int32 × (Nat → Nat → Int32) × (Nat → Nat → Int64)} (hw : pm_W P r k r2 k2)  (h : f265 x1 x2 x3 x4 I J = some q) : pm_Fn X (d + 3) 265 1 [.ref 127, .int x1, .int x2, .int x3, .int x4] (I, J, P, pm_T0, e) (.inl (some (.int q.1))) (q.2.1, q.2.2, P, pm_T0, e) := by
  obtain ⟨hp, hw1, hw2, hw3, hw4, hw5, hw6, hw7, hw8, hw9, hw10, hw11⟩ := id hw
  have hwa := hw5.1
  have hwb := hw6.1
  have hwc := hw7.1
  have hwd := hw8.1
  unfold f265 at h
  refine fn_v rc265 (c := 12) (nf := 59) (by first | rfl | assumption) ml265 rfl rfl rfl rfl ?_
  refine al0 c265_0 ?_
  refine r_gr g265_1 rfl rfl (hp _ _ _ rfl) ?_
  refine r_ic c265_4 kI0 ?_
  refine il3 c265_5 ?_
  obtain ⟨gd1, h⟩ := pm_gd_sp h
  refine w_ist c265_6 (by first | rfl | assumption) gd1 ?_
  rw [pm_lt_eq] at h
  generalize pm_w I 140 (0 : Int32).toNatClampNeg x3 = I2 at h ⊢
  refine al0 c265_7 ?_
  refine r_gr g265_8 rfl rfl (hp _ _ _ rfl) ?_
  refine r_ic c265_11 kI1 ?_
  refine il4 c265_12 ?_
  obtain ⟨gd3, h⟩ := pm_gd_sp h
  refine w_ist c265_14 (by first | rfl | assumption) gd3 ?_
  rw [pm_lt_eq] at h
  generalize pm_w I2 140 (1 : Int32).toNatClampNeg x4 = I4 at h ⊢
  refine al0 c265_15 ?_
  refine r_gr g265_16 rfl rfl (hp _ _ _ rfl) ?_
  refine r_ic c265_19 kI2 ?_
  refine al0 c265_20 ?_
  refine r_gr g265_21 rfl rfl (hp _ _ _ rfl) ?_
  refine r_ic c265_24 kI4 ?_
  refine il1 c265_25 ?_
  refine r_imul c265_26 ?_
  refine r_ic c265_27 kI1 ?_
  refine r_iadd c265_28 ?_
  obtain ⟨gd5, h⟩ := pm_gd_sp h
  refine w_ia c265_29 (by first | rfl | assumption) gd5 ?_
  obtain ⟨gd6, h⟩ := pm_gd_sp h
  refine w_ist c265_30 (by first | rfl | assumption) gd6 ?_
  rw [pm_lt_eq] at h
  generalize pm_w I4 140 (2 : Int32).toNatClampNeg (I4 132 ((4 * x1) + 1).toNatClampNeg) = I7 at h ⊢
  refine al0 c265_31 ?_
  refine r_gr g265_32 rfl rfl (hp _ _ _ rfl) ?_
  refine r_ic c265_35 kI3 ?_
  refine al0 c265_36 ?_
  refine r_gr g265_37 rfl rfl (hp _ _ _ rfl) ?_
  refine r_bi c265_40 kB32 ?_
  refine il1 c265_42 ?_
  refine r_iadd c265_43 ?_
  obtain ⟨gd8, h⟩ := pm_gd_sp h
  refine w_ia c265_44 (by first | rfl | assumption) gd8 ?_
  obtain ⟨gd9, h⟩ := pm_gd_sp h
  refine w_ist c265_45 (by first | rfl | assumption) gd9 ?_
  rw [pm_lt_eq] at h
  generalize pm_w I7 140 (3 : Int32).toNatClampNeg (I7 144 (32 + x1).toNatClampNeg) = I10 at h ⊢
  refine al0 c265_46 ?_
  refine r_gr g265_47 rfl rfl (hp _ _ _ rfl) ?_
  refine r_ic c265_50 kI4 ?_
  refine al0 c265_51 ?_
  refine il1 c265_52 ?_
  obtain ⟨⟨ov11, I12, J13⟩, e14, h⟩ := pm_bd_sp h
  dsimp only at h
  refine cv2 q265_53 (v := .int ov11) (μ1 := (I12, J13, P, pm_T0, e)) (d266 hw e14) rfl ?_
  obtain ⟨gd15, h⟩ := pm_gd_sp h
  refine w_ist c265_56 (by first | rfl | assumption) gd15 ?_
  rw [pm_lt_eq] at h
  generalize pm_w I12 140 (4 : Int32).toNatClampNeg ov11 = I16 at h ⊢
  refine al0 c265_57 ?_
  refine r_gr g265_58 rfl rfl (hp _ _ _ rfl) ?_
  refine r_ic c265_61 kI5 ?_
  refine al0 c265_62 ?_
  refine r_gr g265_63 rfl rfl (hp _ _ _ rfl) ?_
  refine r_bi c265_66 kB40 ?_
  refine il1 c265_68 ?_
  refine r_iadd c265_69 ?_
  obtain ⟨gd17, h⟩ := pm_gd_sp h
  refine w_ia c265_70 (by first | rfl | assumption) gd17 ?_
  obtain ⟨gd18, h⟩ := pm_gd_sp h
  refine w_ist c265_71 (by first | rfl | assumption) gd18 ?_
  rw [pm_lt_eq] at h
  generalize pm_w I16 140 (5 : Int32).toNatClampNeg (I16 144 (40 + x1).toNatClampNeg) = I19 at h ⊢
  refine al0 c265_72 ?_
  refine r_gr g265_73 rfl rfl (hp _ _ _ rfl) ?_
  refine r_bi c265_76 kB6 ?_
  refine al0 c265_78 ?_
  refine r_gr g265_79 rfl rfl (hp _ _ _ rfl) ?_
  refine r_bi c265_82 kB48 ?_
  refine il1 c265_84 ?_
  refine r_iadd c265_85 ?_
  obtain ⟨gd20, h⟩ := pm_gd_sp h
  refine w_ia c265_86 (by first | rfl | assumption) gd20 ?_
  refine r_ic c265_87 kIm1 ?_
  refine r_icne (t := 101) c265_88 rfl (fun h21 => ?_) (fun h21 => ?_)
  · rw [if_neg h21] at h
    refine al0 c265_101 ?_
    refine r_gr g265_102 rfl rfl (hp _ _ _ rfl) ?_
    refine r_bi c265_105 kB48 ?_
    refine il1 c265_107 ?_
    refine r_iadd c265_108 ?_
    obtain ⟨gd22, h⟩ := pm_gd_sp h
    refine w_ia c265_109 (by first | rfl | assumption) gd22 ?_
    obtain ⟨gd23, h⟩ := pm_gd_sp h
    refine w_ist c265_110 (by first | rfl | assumption) gd23 ?_
    rw [pm_lt_eq] at h
    generalize pm_w I19 140 (6 : Int32).toNatClampNeg (I19 144 (48 + x1).toNatClampNeg) = I24 at h ⊢
    refine al0 c265_111 ?_
    refine r_gr g265_112 rfl rfl (hp _ _ _ rfl) ?_
    refine r_bi c265_115 kB7 ?_
    refine al0 c265_117 ?_
    refine r_gr g265_118 rfl rfl (hp _ _ _ rfl) ?_
    refine r_bi c265_121 kB64 ?_
    obtain ⟨gd25, h⟩ := pm_gd_sp h
    refine w_ia c265_123 (by first | rfl | assumption) gd25 ?_
    obtain ⟨gd26, h⟩ := pm_gd_sp h
    refine w_ist c265_124 (by first | rfl | assumption) gd26 ?_
    rw [pm_lt_eq] at h
    generalize pm_w I24 140 (7 : Int32).toNatClampNeg (I24 144 (64 : Int32).toNatClampNeg) = I27 at h ⊢
    refine al0 c265_125 ?_
    refine il2 c265_126 ?_
    obtain ⟨⟨ov28, I29, J30⟩, e31, h⟩ := pm_bd_sp h
    dsimp only at h
    refine cv2 q265_127 (v := .int ov28) (μ1 := (I29, J30, P, pm_T0, e)) (d268 hw e31) rfl ?_
    cases h
    exact r_ri c265_130 rt265 rfl rfl
  · rw [if_pos h21] at h
    refine al0 c265_91 ?_
    refine r_gr g265_92 rfl rfl (hp _ _ _ rfl) ?_
    refine r_bi c265_95 kB64 ?_
    obtain ⟨gd32, h⟩ := pm_gd_sp h
    refine w_ia c265_97 (by first | rfl | assumption) gd32 ?_
    refine r_go (t := 110) c265_98 rfl ?_
    obtain ⟨gd33, h⟩ := pm_gd_sp h
    refine w_ist c265_110 (by first | rfl | assumption) gd33 ?_
    rw [pm_lt_eq] at h
    generalize pm_w I19 140 (6 : Int32).toNatClampNeg (I19 144 (64 : Int32).toNatClampNeg) = I34 at h ⊢
    refine al0 c265_111 ?_
    refine r_gr g265_112 rfl rfl (hp _ _ _ rfl) ?_
    refine r_bi c265_115 kB7 ?_
    refine al0 c265_117 ?_
    refine r_gr g265_118 rfl rfl (hp _ _ _ rfl) ?_
    refine r_bi c265_121 kB64 ?_
    obtain ⟨gd35, h⟩ := pm_gd_sp h
    refine w_ia c265_123 (by first | rfl | assumption) gd35 ?_
    obtain ⟨gd36, h⟩ := pm_gd_sp h
    refine w_ist c265_124 (by first | rfl | assumption) gd36 ?_
    rw [pm_lt_eq] at h
    generalize pm_w I34 140 (7 : Int32).toNatClampNeg (I34 144 (64 : Int32).toNatClampNeg) = I37 at h ⊢
    refine al0 c265_125 ?_
    refine il2 c265_126 ?_
    obtain ⟨⟨ov38, I39, J40⟩, e41, h⟩ := pm_bd_sp h
    dsimp only at h
    refine cv2 q265_127 (v := .int ov38) (μ1 := (I39, J40, P, pm_T0, e)) (d268 hw e41) rfl ?_
    cases h
    exact r_ri c265_130 rt265 rfl rfl
def f264 (x1 : Int32) (x2 : Int32) (I : Nat → Nat → Int32) (J : Nat → Nat → Int64) : Option (Int32 × (Nat → Nat → Int32) × (Nat → Nat → Int64)) := pm_gd (pm_in ((4 * x1) + 0) 32) (pm_gd (pm_in (24 + x1) 66) ((f265 x1 x2 (I 132 ((4 * x1) + 0).toNatClampNeg) (I 144 (24 + x1).toNatClampNeg) I J).bind (fun (ov3, I4, J5) => some (ov3, I4, J5))))
theorem d264 {X : (Nat → Int32) × Nat} {d : Nat} {I : Nat → Nat → Int32} {J : Nat → Nat → Int64} {P : Nat → Nat → Value} {e r k r2 k2 : Nat} {x1 : Int32} {x2 : Int32} {q : Int32 × (Nat → Nat → Int32) × (Nat → Nat → Int64)} (hw : pm_W P r k r2 k2)  (h : f264 x1 x2 I J = some q) : pm_Fn X (d + 4) 264 1 [.ref 127, .int x1, .int x2] (I, J, P, pm_T0, e) (.inl (some (.int q.1))) (q.2.1, q.2.2, P, pm_T0, e) := by
  obtain ⟨hp, hw1, hw2, hw3, hw4, hw5, hw6, hw7, hw8, hw9, hw10, hw11⟩ := id hw
  have hwa := hw5.1
  have hwb := hw6.1
  have hwc := hw7.1
  have hwd := hw8.1
  unfold f264 at h
  refine fn_v rc264 (c := 12) (nf := 59) (by first | rfl | assumption) ml264 rfl rfl rfl rfl ?_
  refine al0 c264_0 ?_
  refine il1 c264_1 ?_
  refine il2 c264_2 ?_
  refine al0 c264_3 ?_
  refine r_gr g264_4 rfl rfl (hp _ _ _ rfl) ?_
  refine r_ic c264_7 kI4 ?_
  refine il1 c264_8 ?_
  refine r_imul c264_9 ?_
  refine r_ic c264_10 kI0 ?_
  refine r_iadd c264_11 ?_
  obtain ⟨gd1, h⟩ := pm_gd_sp h
  refine w_ia c264_12 (by first | rfl | assumption) gd1 ?_
  refine al0 c264_13 ?_
  refine r_gr g264_14 rfl rfl (hp _ _ _ rfl) ?_
  refine r_bi c264_17 kB24 ?_
  refine il1 c264_19 ?_
  refine r_iadd c264_20 ?_
  obtain ⟨gd2, h⟩ := pm_gd_sp h
  refine w_ia c264_21 (by first | rfl | assumption) gd2 ?_
  obtain ⟨⟨ov3, I4, J5⟩, e6, h⟩ := pm_bd_sp h
  dsimp only at h
  refine cv5 q264_22 (v := .int ov3) (μ1 := (I4, J5, P, pm_T0, e)) (d265 hw e6) rfl ?_
  cases h
  exact r_ri c264_25 rt264 rfl rfl
def f263 (x1 : Int32) (I : Nat → Nat → Int32) (J : Nat → Nat → Int64) : Option (Int32 × (Nat → Nat → Int32) × (Nat → Nat → Int64)) := pm_gd (pm_in (0 + x1) 66) ((if (I 144 (0 + x1).toNatClampNeg) = 3 then some (0, I, J) else (f264 x1 (I 127 40) I J).bind (fun (ov3, I4, J5) => pm_gd (pm_in (16 + x1) 66) ((if 0 < (ov3 - (I4 144 (16 + x1).toNatClampNeg)).toInt then some (ov3 - (I4 144 (16 + x1).toNatClampNeg), I4, J5) else some (0, I4, J5))))))
theorem d263 {X : (Nat → Int32) × Nat} {d : Nat} {I : Nat → Nat → Int32} {J : Nat → Nat → Int64} {P : Nat → Nat → Value} {e r k r2 k2 : Nat} {x1 : Int32} {q : Int32 × (Nat → Nat → Int32) × (Nat → Nat → Int64)} (hw : pm_W P r k r2 k2)  (h : f263 x1 I J = some q) : pm_Fn X (d + 5) 263 1 [.ref 127, .int x1] (I, J, P, pm_T0, e) (.inl (some (.int q.1))) (q.2.1, q.2.2, P, pm_T0, e) := by
  obtain ⟨hp, hw1, hw2, hw3, hw4, hw5, hw6, hw7, hw8, hw9, hw10, hw11⟩ := id hw
  have hwa := hw5.1
  have hwb := hw6.1
  have hwc := hw7.1
  have hwd := hw8.1
  unfold f263 at h
  refine fn_v rc263 (c := 12) (nf := 59) (by first | rfl | assumption) ml263 rfl rfl rfl rfl ?_
  refine al0 c263_0 ?_
  refine r_gr g263_1 rfl rfl (hp _ _ _ rfl) ?_
  refine r_ic c263_4 kI0 ?_
  refine il1 c263_5 ?_
  refine r_iadd c263_6 ?_
  obtain ⟨gd1, h⟩ := pm_gd_sp h
  refine w_ia c263_7 (by first | rfl | assumption) gd1 ?_
  refine r_ic c263_8 kI3 ?_
  refine r_icne (t := 14) c263_9 rfl (fun h2 => ?_) (fun h2 => ?_)
  · rw [if_neg h2] at h
    refine al0 c263_14 ?_
    refine il1 c263_15 ?_
    refine al0 c263_16 ?_
    refine r_gi g263_17 (by first | rfl | assumption) rfl ?_
    obtain ⟨⟨ov3, I4, J5⟩, e6, h⟩ := pm_bd_sp h
    dsimp only at h
    refine cv3 q263_20 (v := .int ov3) (μ1 := (I4, J5, P, pm_T0, e)) (d264 hw e6) rfl ?_
    refine al0 c263_23 ?_
    refine r_gr g263_24 rfl rfl (hp _ _ _ rfl) ?_
    refine r_bi c263_27 kB16 ?_
    refine il1 c263_29 ?_
    refine r_iadd c263_30 ?_
    obtain ⟨gd7, h⟩ := pm_gd_sp h
    refine w_ia c263_31 (by first | rfl | assumption) gd7 ?_
    refine r_isub c263_32 ?_
    refine is2 c263_33 rfl ?_
    refine il2 c263_34 ?_
    refine r_ifle (t := 42) c263_35 rfl (fun h8 => ?_) (fun h8 => ?_)
    · rw [if_neg (Int.not_lt.mpr h8)] at h
      refine r_ic c263_42 kI0 ?_
      cases h
      exact r_ri c263_43 rt263 rfl rfl
    · rw [if_pos h8] at h
      refine il2 c263_38 ?_
      refine r_go (t := 43) c263_39 rfl ?_
      cases h
      exact r_ri c263_43 rt263 rfl rfl
  · rw [if_pos h2] at h
    refine r_ic c263_12 kI0 ?_
    cases h
    exact r_ri c263_13 rt263 rfl rfl
def f262 (x1 : Int32) (I : Nat → Nat → Int32) (J : Nat → Nat → Int64) : Option (Bool × (Nat → Nat → Int32) × (Nat → Nat → Int64)) := pm_gd (pm_in (0 + x1) 66) ((if (I 144 (0 + x1).toNatClampNeg) = 1 then pm_gd (pm_in (56 + x1) 66) ((f263 x1 I J).bind (fun (ov4, I5, J6) => (if (I 144 (56 + x1).toNatClampNeg).toInt < (ov4 / 4).toInt then some (false, I5, J6) else some (true, I5, J6)))) else pm_gd (pm_in (0 + x1) 66) ((if (I 144 (0 + x1).toNatClampNeg) = 2 then pm_gd (pm_in (56 + x1) 66) ((f263 x1 I J).bind (fun (ov12, I13, J14) => (if (I 144 (56 + x1).toNatClampNeg).toInt < (ov12 / 4).toInt then some (false, I13, J14) else some (true, I13, J14)))) else some (false, I, J)))))
theorem d262 {X : (Nat → Int32) × Nat} {d : Nat} {I : Nat → Nat → Int32} {J : Nat → Nat → Int64} {P : Nat → Nat → Value} {e r k r2 k2 : Nat} {x1 : Int32} {q : Bool × (Nat → Nat → Int32) × (Nat → Nat → Int64)} (hw : pm_W P r k r2 k2)  (h : f262 x1 I J = some q) : pm_Fn X (d + 6) 262 1 [.ref 127, .int x1] (I, J, P, pm_T0, e) (.inl (some (.int (pm_bi q.1)))) (q.2.1, q.2.2, P, pm_T0, e) := by
  obtain ⟨hp, hw1, hw2, hw3, hw4, hw5, hw6, hw7, hw8, hw9, hw10, hw11⟩ := id hw
  have hwa := hw5.1
  have hwb := hw6.1
  have hwc := hw7.1
  have hwd := hw8.1
  unfold f262 at h
  refine fn_v rc262 (c := 12) (nf := 59) (by first | rfl | assumption) ml262 rfl rfl rfl rfl ?_
  refine al0 c262_0 ?_
  refine r_gr g262_1 rfl rfl (hp _ _ _ rfl) ?_
  refine r_ic c262_4 kI0 ?_
  refine il1 c262_5 ?_
  refine r_iadd c262_6 ?_
  obtain ⟨gd1, h⟩ := pm_gd_sp h
  refine w_ia c262_7 (by first | rfl | assumption) gd1 ?_
  refine r_ic c262_8 kI1 ?_
  refine r_iceq (t := 24) c262_9 rfl (fun h2 => ?_) (fun h2 => ?_)
  · rw [if_pos h2] at h
    refine al0 c262_24 ?_
    refine r_gr g262_25 rfl rfl (hp _ _ _ rfl) ?_
    refine r_bi c262_28 kB56 ?_
    refine il1 c262_30 ?_
    refine r_iadd c262_31 ?_
    obtain ⟨gd3, h⟩ := pm_gd_sp h
    refine w_ia c262_32 (by first | rfl | assumption) gd3 ?_
    refine al0 c262_33 ?_
    refine il1 c262_34 ?_
    obtain ⟨⟨ov4, I5, J6⟩, e7, h⟩ := pm_bd_sp h
    dsimp only at h
    refine cv2 q262_35 (v := .int ov4) (μ1 := (I5, J6, P, pm_T0, e)) (d263 hw e7) rfl ?_
    refine r_ic c262_38 kI4 ?_
    refine r_idiv c262_39 (by decide) ?_
    refine r_iclt (t := 47) c262_40 rfl (fun h8 => ?_) (fun h8 => ?_)
    · rw [if_pos h8] at h
      refine r_ic c262_47 kI0 ?_
      cases h
      exact r_rz c262_48 rt262 (by decide) rfl rfl
    · rw [if_neg (Int.not_lt.mpr h8)] at h
      refine r_ic c262_43 kI1 ?_
      refine r_go (t := 48) c262_44 rfl ?_
      cases h
      exact r_rz c262_48 rt262 (by decide) rfl rfl
  · rw [if_neg h2] at h
    refine al0 c262_12 ?_
    refine r_gr g262_13 rfl rfl (hp _ _ _ rfl) ?_
    refine r_ic c262_16 kI0 ?_
    refine il1 c262_17 ?_
    refine r_iadd c262_18 ?_
    obtain ⟨gd9, h⟩ := pm_gd_sp h
    refine w_ia c262_19 (by first | rfl | assumption) gd9 ?_
    refine r_ic c262_20 kI2 ?_
    refine r_icne (t := 47) c262_21 rfl (fun h10 => ?_) (fun h10 => ?_)
    · rw [if_neg h10] at h
      refine r_ic c262_47 kI0 ?_
      cases h
      exact r_rz c262_48 rt262 (by decide) rfl rfl
    · rw [if_pos h10] at h
      refine al0 c262_24 ?_
      refine r_gr g262_25 rfl rfl (hp _ _ _ rfl) ?_
      refine r_bi c262_28 kB56 ?_
      refine il1 c262_30 ?_
      refine r_iadd c262_31 ?_
      obtain ⟨gd11, h⟩ := pm_gd_sp h
      refine w_ia c262_32 (by first | rfl | assumption) gd11 ?_
      refine al0 c262_33 ?_
      refine il1 c262_34 ?_
      obtain ⟨⟨ov12, I13, J14⟩, e15, h⟩ := pm_bd_sp h
      dsimp only at h
      refine cv2 q262_35 (v := .int ov12) (μ1 := (I13, J14, P, pm_T0, e)) (d263 hw e15) rfl ?_
      refine r_ic c262_38 kI4 ?_
      refine r_idiv c262_39 (by decide) ?_
      refine r_iclt (t := 47) c262_40 rfl (fun h16 => ?_) (fun h16 => ?_)
      · rw [if_pos h16] at h
        refine r_ic c262_47 kI0 ?_
        cases h
        exact r_rz c262_48 rt262 (by decide) rfl rfl
      · rw [if_neg (Int.not_lt.mpr h16)] at h
        refine r_ic c262_43 kI1 ?_
        refine r_go (t := 48) c262_44 rfl ?_
        cases h
        exact r_rz c262_48 rt262 (by decide) rfl rfl
def f271 (x1 : Int32) (I : Nat → Nat → Int32) (J : Nat → Nat → Int64) : Option (Unit × (Nat → Nat → Int32) × (Nat → Nat → Int64)) := pm_gd (pm_in (0 + x1) 66) (pm_lt (pm_w I 144 (0 + x1).toNatClampNeg 3) (fun I2 => pm_gd (pm_in (8 + x1) 66) (pm_lt (pm_w I2 144 (8 + x1).toNatClampNeg (-1)) (fun I4 => some ((), I4, J)))))
theorem d271 {X : (Nat → Int32) × Nat} {d : Nat} {I : Nat → Nat → Int32} {J : Nat → Nat → Int64} {P : Nat → Nat → Value} {e r k r2 k2 : Nat} {x1 : Int32} {q : Unit × (Nat → Nat → Int32) × (Nat → Nat → Int64)} (hw : pm_W P r k r2 k2)  (h : f271 x1 I J = some q) : pm_Fn X (d) 271 1 [.ref 127, .int x1] (I, J, P, pm_T0, e) (.inl none) (q.2.1, q.2.2, P, pm_T0, e) := by
  obtain ⟨hp, hw1, hw2, hw3, hw4, hw5, hw6, hw7, hw8, hw9, hw10, hw11⟩ := id hw
  have hwa := hw5.1
  have hwb := hw6.1
  have hwc := hw7.1
  have hwd := hw8.1
  unfold f271 at h
  refine fn_v rc271 (c := 12) (nf := 59) (by first | rfl | assumption) ml271 rfl rfl rfl rfl ?_
  refine al0 c271_0 ?_
  refine r_gr g271_1 rfl rfl (hp _ _ _ rfl) ?_
  refine r_ic c271_4 kI0 ?_
  refine il1 c271_5 ?_
  refine r_iadd c271_6 ?_
  refine r_ic c271_7 kI3 ?_
  obtain ⟨gd1, h⟩ := pm_gd_sp h
  refine w_ist c271_8 (by first | rfl | assumption) gd1 ?_
  rw [pm_lt_eq] at h
  generalize pm_w I 144 (0 + x1).toNatClampNeg 3 = I2 at h ⊢
  refine al0 c271_9 ?_
  refine r_gr g271_10 rfl rfl (hp _ _ _ rfl) ?_
  refine r_bi c271_13 kB8 ?_
  refine il1 c271_15 ?_
  refine r_iadd c271_16 ?_
  refine r_ic c271_17 kIm1 ?_
  obtain ⟨gd3, h⟩ := pm_gd_sp h
  refine w_ist c271_18 (by first | rfl | assumption) gd3 ?_
  rw [pm_lt_eq] at h
  generalize pm_w I2 144 (8 + x1).toNatClampNeg (-1) = I4 at h ⊢
  cases h
  exact r_rv c271_19 rt271 rfl
def f261 (x1 : Int32) (I : Nat → Nat → Int32) (J : Nat → Nat → Int64) : Option (Bool × (Nat → Nat → Int32) × (Nat → Nat → Int64)) := (f262 x1 I J).bind (fun (ov1, I2, J3) => (if ov1 = true then pm_gd (pm_in (56 + x1) 66) ((f263 x1 I2 J3).bind (fun (ov7, I8, J9) => pm_gd (pm_in (56 + x1) 66) (pm_lt (pm_w I8 144 (56 + x1).toNatClampNeg ((I2 144 (56 + x1).toNatClampNeg) - (ov7 / 4))) (fun I12 => (f271 x1 I12 J9).bind (fun (ov13, I14, J15) => some (true, I14, J15)))))) else some (false, I2, J3)))
theorem d261 {X : (Nat → Int32) × Nat} {d : Nat} {I : Nat → Nat → Int32} {J : Nat → Nat → Int64} {P : Nat → Nat → Value} {e r k r2 k2 : Nat} {x1 : Int32} {q : Bool × (Nat → Nat → Int32) × (Nat → Nat → Int64)} (hw : pm_W P r k r2 k2)  (h : f261 x1 I J = some q) : pm_Fn X (d + 7) 261 1 [.ref 127, .int x1] (I, J, P, pm_T0, e) (.inl (some (.int (pm_bi q.1)))) (q.2.1, q.2.2, P, pm_T0, e) := by
  obtain ⟨hp, hw1, hw2, hw3, hw4, hw5, hw6, hw7, hw8, hw9, hw10, hw11⟩ := id hw
  have hwa := hw5.1
  have hwb := hw6.1
  have hwc := hw7.1
  have hwd := hw8.1
  unfold f261 at h
  refine fn_v rc261 (c := 12) (nf := 59) (by first | rfl | assumption) ml261 rfl rfl rfl rfl ?_
  refine al0 c261_0 ?_
  refine il1 c261_1 ?_
  obtain ⟨⟨ov1, I2, J3⟩, e4, h⟩ := pm_bd_sp h
  dsimp only at h
  refine cv2 q261_2 (v := .int (pm_bi ov1)) (μ1 := (I2, J3, P, pm_T0, e)) (d262 hw e4) rfl ?_
  refine r_ifne (t := 10) c261_5 rfl (fun h5 => ?_) (fun h5 => ?_)
  · rw [if_pos (pm_bt h5)] at h
    refine al0 c261_10 ?_
    refine r_gr g261_11 rfl rfl (hp _ _ _ rfl) ?_
    refine r_bi c261_14 kB56 ?_
    refine il1 c261_16 ?_
    refine r_iadd c261_17 ?_
    refine r_dp2 c261_18 ?_
    obtain ⟨gd6, h⟩ := pm_gd_sp h
    refine w_ia c261_19 (by first | rfl | assumption) gd6 ?_
    refine al0 c261_20 ?_
    refine il1 c261_21 ?_
    obtain ⟨⟨ov7, I8, J9⟩, e10, h⟩ := pm_bd_sp h
    dsimp only at h
    refine cv2 q261_22 (v := .int ov7) (μ1 := (I8, J9, P, pm_T0, e)) (d263 hw e10) rfl ?_
    refine r_ic c261_25 kI4 ?_
    refine r_idiv c261_26 (by decide) ?_
    refine r_isub c261_27 ?_
    obtain ⟨gd11, h⟩ := pm_gd_sp h
    refine w_ist c261_28 (by first | rfl | assumption) gd11 ?_
    rw [pm_lt_eq] at h
    generalize pm_w I8 144 (56 + x1).toNatClampNeg ((I2 144 (56 + x1).toNatClampNeg) - (ov7 / 4)) = I12 at h ⊢
    refine al0 c261_29 ?_
    refine il1 c261_30 ?_
    obtain ⟨⟨ov13, I14, J15⟩, e16, h⟩ := pm_bd_sp h
    dsimp only at h
    refine cz2 q261_31 (μ1 := (I14, J15, P, pm_T0, e)) (d271 hw e16) rfl ?_
    refine r_ic c261_34 kI1 ?_
    cases h
    exact r_rz c261_35 rt261 (by decide) rfl rfl
  · rw [if_neg (pm_bf h5)] at h
    refine r_ic c261_8 kI0 ?_
    cases h
    exact r_rz c261_9 rt261 (by decide) rfl rfl
def f272_L  : Nat → Nat → Int32 → (Nat → Nat → Int32) → (Nat → Nat → Int64) → Option (Unit × (Nat → Nat → Int32) × (Nat → Nat → Int64))
  | 0, _, _, _, _ => none
  | fu + 1, 0, y1, I, J => (if y1.toInt < (I 127 18).toInt then pm_gd (pm_in (0 + y1) 66) ((if (I 144 (0 + y1).toNatClampNeg) = 2 then pm_gd (pm_in (16 + y1) 66) (pm_gd (pm_in (16 + y1) 66) (pm_lt (pm_w I 144 (16 + y1).toNatClampNeg ((I 144 (16 + y1).toNatClampNeg) + 1)) (fun I20 => pm_lt (pm_w I20 127 42 ((I20 127 42) + 1)) (fun I21 => pm_gd (pm_in (0 + y1) 66) ((if (I21 144 (0 + y1).toNatClampNeg) = 0 then pm_gd (pm_in 65 66) ((if 0 < (I21 144 (65 : Int32).toNatClampNeg).toInt then pm_gd (pm_in 65 66) (pm_gd (pm_in 65 66) (pm_lt (pm_w I21 144 (65 : Int32).toNatClampNeg ((I21 144 (65 : Int32).toNatClampNeg) - 1)) (fun I32 => f272_L fu 0 (y1 + 1) I32 J))) else pm_gd (pm_in (32 + y1) 66) (pm_gd (pm_in (32 + y1) 66) (pm_lt (pm_w I21 144 (32 + y1).toNatClampNeg ((I21 144 (32 + y1).toNatClampNeg) + 1)) (fun I28 => pm_lt (pm_w I28 127 41 ((I28 127 41) + 1)) (fun I29 => f272_L fu 0 (y1 + 1) I29 J)))))) else f272_L fu 0 (y1 + 1) I21 J)))))) else pm_gd (pm_in (0 + y1) 66) ((if (I 144 (0 + y1).toNatClampNeg) = 0 then pm_gd (pm_in 65 66) ((if 0 < (I 144 (65 : Int32).toNatClampNeg).toInt then pm_gd (pm_in 65 66) (pm_gd (pm_in 65 66) (pm_lt (pm_w I 144 (65 : Int32).toNatClampNeg ((I 144 (65 : Int32).toNatClampNeg) - 1)) (fun I17 => f272_L fu 0 (y1 + 1) I17 J))) else pm_gd (pm_in (32 + y1) 66) (pm_gd (pm_in (32 + y1) 66) (pm_lt (pm_w I 144 (32 + y1).toNatClampNeg ((I 144 (32 + y1).toNatClampNeg) + 1)) (fun I13 => pm_lt (pm_w I13 127 41 ((I13 127 41) + 1)) (fun I14 => f272_L fu 0 (y1 + 1) I14 J)))))) else f272_L fu 0 (y1 + 1) I J)))) else pm_gd (pm_in 64 66) (pm_gd (pm_in 64 66) (pm_lt (pm_w I 144 (64 : Int32).toNatClampNeg ((I 144 (64 : Int32).toNatClampNeg) + 1)) (fun I4 => f272_L fu 1 0 I4 J))))
  | fu + 1, _ + 1, y1, I, J => (if y1.toInt < (I 127 18).toInt then pm_gd (pm_in (0 + y1) 66) ((if (I 144 (0 + y1).toNatClampNeg) = 2 then (f263 y1 I J).bind (fun (ov36, I37, J38) => (if ov36 = 0 then (f271 y1 I37 J38).bind (fun (ov41, I42, J43) => f272_L fu 1 (y1 + 1) I42 J43) else f272_L fu 1 (y1 + 1) I37 J38)) else f272_L fu 1 (y1 + 1) I J)) else some ((), I, J))
def f272  (I : Nat → Nat → Int32) (J : Nat → Nat → Int64) : Option (Unit × (Nat → Nat → Int32) × (Nat → Nat → Int64)) := f272_L pm_FU 0 0 I J
theorem d272_L {X : (Nat → Int32) × Nat} {d : Nat} {P : Nat → Nat → Value} {e r k r2 k2 : Nat}  (hw : pm_W P r k r2 k2)  : ∀ fu : Nat, (∀ {y1 : Int32} {I : Nat → Nat → Int32} {J : Nat → Nat → Int64} {q : Unit × (Nat → Nat → Int32) × (Nat → Nat → Int64)} (h : f272_L fu 0 y1 I J = some q), pm_Fx X (d + 6) 272 2 [.ref 127, .int y1] [] (I, J, P, pm_T0, e) (.inl none) (q.2.1, q.2.2, P, pm_T0, e)) ∧ (∀ {y1 : Int32} {I : Nat → Nat → Int32} {J : Nat → Nat → Int64} {q : Unit × (Nat → Nat → Int32) × (Nat → Nat → Int64)} (h : f272_L fu 1 y1 I J = some q), pm_Fx X (d + 6) 272 125 [.ref 127, .int y1] [] (I, J, P, pm_T0, e) (.inl none) (q.2.1, q.2.2, P, pm_T0, e)) := by
  obtain ⟨hp, hw1, hw2, hw3, hw4, hw5, hw6, hw7, hw8, hw9, hw10, hw11⟩ := id hw
  have hwa := hw5.1
  have hwb := hw6.1
  have hwc := hw7.1
  have hwd := hw8.1
  intro fu
  induction fu with
  | zero => exact ⟨(by intro y1 I J q h; cases h), (by intro y1 I J q h; cases h)⟩
  | succ fu ih =>
    refine ⟨?_, ?_⟩
    · intro y1 I J q h
      rw [f272_L] at h
      refine il1 c272_2 ?_
      refine al0 c272_3 ?_
      refine r_gi g272_4 (by first | rfl | assumption) rfl ?_
      refine r_icge (t := 112) c272_7 rfl (fun h1 => ?_) (fun h1 => ?_)
      · rw [if_neg (Int.not_lt.mpr h1)] at h
        refine al0 c272_112 ?_
        refine r_gr g272_113 rfl rfl (hp _ _ _ rfl) ?_
        refine r_bi c272_116 kB64 ?_
        refine r_dp2 c272_118 ?_
        obtain ⟨gd2, h⟩ := pm_gd_sp h
        refine w_ia c272_119 (by first | rfl | assumption) gd2 ?_
        refine r_ic c272_120 kI1 ?_
        refine r_iadd c272_121 ?_
        obtain ⟨gd3, h⟩ := pm_gd_sp h
        refine w_ist c272_122 (by first | rfl | assumption) gd3 ?_
        rw [pm_lt_eq] at h
        generalize pm_w I 144 (64 : Int32).toNatClampNeg ((I 144 (64 : Int32).toNatClampNeg) + 1) = I4 at h ⊢
        refine r_ic c272_123 kI0 ?_
        refine is1 c272_124 rfl ?_
        exact ih.2 h
      · rw [if_pos h1] at h
        refine al0 c272_10 ?_
        refine r_gr g272_11 rfl rfl (hp _ _ _ rfl) ?_
        refine r_ic c272_14 kI0 ?_
        refine il1 c272_15 ?_
        refine r_iadd c272_16 ?_
        obtain ⟨gd5, h⟩ := pm_gd_sp h
        refine w_ia c272_17 (by first | rfl | assumption) gd5 ?_
        refine r_ic c272_18 kI2 ?_
        refine r_icne (t := 45) c272_19 rfl (fun h6 => ?_) (fun h6 => ?_)
        · rw [if_neg h6] at h
          refine al0 c272_45 ?_
          refine r_gr g272_46 rfl rfl (hp _ _ _ rfl) ?_
          refine r_ic c272_49 kI0 ?_
          refine il1 c272_50 ?_
          refine r_iadd c272_51 ?_
          obtain ⟨gd7, h⟩ := pm_gd_sp h
          refine w_ia c272_52 (by first | rfl | assumption) gd7 ?_
          refine r_ifeq (t := 59) c272_53 rfl (fun h8 => ?_) (fun h8 => ?_)
          · rw [if_pos h8] at h
            refine al0 c272_59 ?_
            refine r_gr g272_60 rfl rfl (hp _ _ _ rfl) ?_
            refine r_bi c272_63 kB65 ?_
            obtain ⟨gd9, h⟩ := pm_gd_sp h
            refine w_ia c272_65 (by first | rfl | assumption) gd9 ?_
            refine r_ifle (t := 83) c272_66 rfl (fun h10 => ?_) (fun h10 => ?_)
            · rw [if_neg (Int.not_lt.mpr h10)] at h
              refine al0 c272_83 ?_
              refine r_gr g272_84 rfl rfl (hp _ _ _ rfl) ?_
              refine r_bi c272_87 kB32 ?_
              refine il1 c272_89 ?_
              refine r_iadd c272_90 ?_
              refine r_dp2 c272_91 ?_
              obtain ⟨gd11, h⟩ := pm_gd_sp h
              refine w_ia c272_92 (by first | rfl | assumption) gd11 ?_
              refine r_ic c272_93 kI1 ?_
              refine r_iadd c272_94 ?_
              obtain ⟨gd12, h⟩ := pm_gd_sp h
              refine w_ist c272_95 (by first | rfl | assumption) gd12 ?_
              rw [pm_lt_eq] at h
              generalize pm_w I 144 (32 + y1).toNatClampNeg ((I 144 (32 + y1).toNatClampNeg) + 1) = I13 at h ⊢
              refine al0 c272_96 ?_
              refine r_dpr c272_97 ?_
              refine r_gi g272_98 (by first | rfl | assumption) rfl ?_
              refine r_ic c272_101 kI1 ?_
              refine r_iadd c272_102 ?_
              refine w_pi p272_103 (by first | rfl | assumption) rfl ?_
              rw [pm_lt_eq] at h
              generalize pm_w I13 127 41 ((I13 127 41) + 1) = I14 at h ⊢
              refine ii1 c272_106 kI1 rfl ?_
              refine r_go (t := 2) c272_109 rfl ?_
              exact ih.1 h
            · rw [if_pos h10] at h
              refine al0 c272_69 ?_
              refine r_gr g272_70 rfl rfl (hp _ _ _ rfl) ?_
              refine r_bi c272_73 kB65 ?_
              refine r_dp2 c272_75 ?_
              obtain ⟨gd15, h⟩ := pm_gd_sp h
              refine w_ia c272_76 (by first | rfl | assumption) gd15 ?_
              refine r_ic c272_77 kI1 ?_
              refine r_isub c272_78 ?_
              obtain ⟨gd16, h⟩ := pm_gd_sp h
              refine w_ist c272_79 (by first | rfl | assumption) gd16 ?_
              rw [pm_lt_eq] at h
              generalize pm_w I 144 (65 : Int32).toNatClampNeg ((I 144 (65 : Int32).toNatClampNeg) - 1) = I17 at h ⊢
              refine r_go (t := 106) c272_80 rfl ?_
              refine ii1 c272_106 kI1 rfl ?_
              refine r_go (t := 2) c272_109 rfl ?_
              exact ih.1 h
          · rw [if_neg h8] at h
            refine r_go (t := 106) c272_56 rfl ?_
            refine ii1 c272_106 kI1 rfl ?_
            refine r_go (t := 2) c272_109 rfl ?_
            exact ih.1 h
        · rw [if_pos h6] at h
          refine al0 c272_22 ?_
          refine r_gr g272_23 rfl rfl (hp _ _ _ rfl) ?_
          refine r_bi c272_26 kB16 ?_
          refine il1 c272_28 ?_
          refine r_iadd c272_29 ?_
          refine r_dp2 c272_30 ?_
          obtain ⟨gd18, h⟩ := pm_gd_sp h
          refine w_ia c272_31 (by first | rfl | assumption) gd18 ?_
          refine r_ic c272_32 kI1 ?_
          refine r_iadd c272_33 ?_
          obtain ⟨gd19, h⟩ := pm_gd_sp h
          refine w_ist c272_34 (by first | rfl | assumption) gd19 ?_
          rw [pm_lt_eq] at h
          generalize pm_w I 144 (16 + y1).toNatClampNeg ((I 144 (16 + y1).toNatClampNeg) + 1) = I20 at h ⊢
          refine al0 c272_35 ?_
          refine r_dpr c272_36 ?_
          refine r_gi g272_37 (by first | rfl | assumption) rfl ?_
          refine r_ic c272_40 kI1 ?_
          refine r_iadd c272_41 ?_
          refine w_pi p272_42 (by first | rfl | assumption) rfl ?_
          rw [pm_lt_eq] at h
          generalize pm_w I20 127 42 ((I20 127 42) + 1) = I21 at h ⊢
          refine al0 c272_45 ?_
          refine r_gr g272_46 rfl rfl (hp _ _ _ rfl) ?_
          refine r_ic c272_49 kI0 ?_
          refine il1 c272_50 ?_
          refine r_iadd c272_51 ?_
          obtain ⟨gd22, h⟩ := pm_gd_sp h
          refine w_ia c272_52 (by first | rfl | assumption) gd22 ?_
          refine r_ifeq (t := 59) c272_53 rfl (fun h23 => ?_) (fun h23 => ?_)
          · rw [if_pos h23] at h
            refine al0 c272_59 ?_
            refine r_gr g272_60 rfl rfl (hp _ _ _ rfl) ?_
            refine r_bi c272_63 kB65 ?_
            obtain ⟨gd24, h⟩ := pm_gd_sp h
            refine w_ia c272_65 (by first | rfl | assumption) gd24 ?_
            refine r_ifle (t := 83) c272_66 rfl (fun h25 => ?_) (fun h25 => ?_)
            · rw [if_neg (Int.not_lt.mpr h25)] at h
              refine al0 c272_83 ?_
              refine r_gr g272_84 rfl rfl (hp _ _ _ rfl) ?_
              refine r_bi c272_87 kB32 ?_
              refine il1 c272_89 ?_
              refine r_iadd c272_90 ?_
              refine r_dp2 c272_91 ?_
              obtain ⟨gd26, h⟩ := pm_gd_sp h
              refine w_ia c272_92 (by first | rfl | assumption) gd26 ?_
              refine r_ic c272_93 kI1 ?_
              refine r_iadd c272_94 ?_
              obtain ⟨gd27, h⟩ := pm_gd_sp h
              refine w_ist c272_95 (by first | rfl | assumption) gd27 ?_
              rw [pm_lt_eq] at h
              generalize pm_w I21 144 (32 + y1).toNatClampNeg ((I21 144 (32 + y1).toNatClampNeg) + 1) = I28 at h ⊢
              refine al0 c272_96 ?_
              refine r_dpr c272_97 ?_
              refine r_gi g272_98 (by first | rfl | assumption) rfl ?_
              refine r_ic c272_101 kI1 ?_
              refine r_iadd c272_102 ?_
              refine w_pi p272_103 (by first | rfl | assumption) rfl ?_
              rw [pm_lt_eq] at h
              generalize pm_w I28 127 41 ((I28 127 41) + 1) = I29 at h ⊢
              refine ii1 c272_106 kI1 rfl ?_
              refine r_go (t := 2) c272_109 rfl ?_
              exact ih.1 h
            · rw [if_pos h25] at h
              refine al0 c272_69 ?_
              refine r_gr g272_70 rfl rfl (hp _ _ _ rfl) ?_
              refine r_bi c272_73 kB65 ?_
              refine r_dp2 c272_75 ?_
              obtain ⟨gd30, h⟩ := pm_gd_sp h
              refine w_ia c272_76 (by first | rfl | assumption) gd30 ?_
              refine r_ic c272_77 kI1 ?_
              refine r_isub c272_78 ?_
              obtain ⟨gd31, h⟩ := pm_gd_sp h
              refine w_ist c272_79 (by first | rfl | assumption) gd31 ?_
              rw [pm_lt_eq] at h
              generalize pm_w I21 144 (65 : Int32).toNatClampNeg ((I21 144 (65 : Int32).toNatClampNeg) - 1) = I32 at h ⊢
              refine r_go (t := 106) c272_80 rfl ?_
              refine ii1 c272_106 kI1 rfl ?_
              refine r_go (t := 2) c272_109 rfl ?_
              exact ih.1 h
          · rw [if_neg h23] at h
            refine r_go (t := 106) c272_56 rfl ?_
            refine ii1 c272_106 kI1 rfl ?_
            refine r_go (t := 2) c272_109 rfl ?_
            exact ih.1 h
    · intro y1 I J q h
      rw [f272_L] at h
      refine il1 c272_125 ?_
      refine al0 c272_126 ?_
      refine r_gi g272_127 (by first | rfl | assumption) rfl ?_
      refine r_icge (t := 164) c272_130 rfl (fun h33 => ?_) (fun h33 => ?_)
      · rw [if_neg (Int.not_lt.mpr h33)] at h
        cases h
        exact r_rv c272_164 rt272 rfl
      · rw [if_pos h33] at h
        refine al0 c272_133 ?_
        refine r_gr g272_134 rfl rfl (hp _ _ _ rfl) ?_
        refine r_ic c272_137 kI0 ?_
        refine il1 c272_138 ?_
        refine r_iadd c272_139 ?_
        obtain ⟨gd34, h⟩ := pm_gd_sp h
        refine w_ia c272_140 (by first | rfl | assumption) gd34 ?_
        refine r_ic c272_141 kI2 ?_
        refine r_icne (t := 158) c272_142 rfl (fun h35 => ?_) (fun h35 => ?_)
        · rw [if_neg h35] at h
          refine ii1 c272_158 kI1 rfl ?_
          refine r_go (t := 125) c272_161 rfl ?_
          exact ih.2 h
        · rw [if_pos h35] at h
          refine al0 c272_145 ?_
          refine il1 c272_146 ?_
          obtain ⟨⟨ov36, I37, J38⟩, e39, h⟩ := pm_bd_sp h
          dsimp only at h
          refine cv2 q272_147 (v := .int ov36) (μ1 := (I37, J38, P, pm_T0, e)) (d263 hw e39) rfl ?_
          refine r_ifne (t := 158) c272_150 rfl (fun h40 => ?_) (fun h40 => ?_)
          · rw [if_neg h40] at h
            refine ii1 c272_158 kI1 rfl ?_
            refine r_go (t := 125) c272_161 rfl ?_
            exact ih.2 h
          · rw [if_pos h40] at h
            refine al0 c272_153 ?_
            refine il1 c272_154 ?_
            obtain ⟨⟨ov41, I42, J43⟩, e44, h⟩ := pm_bd_sp h
            dsimp only at h
            refine cz2 q272_155 (μ1 := (I42, J43, P, pm_T0, e)) (d271 hw e44) rfl ?_
            refine ii1 c272_158 kI1 rfl ?_
            refine r_go (t := 125) c272_161 rfl ?_
            exact ih.2 h
theorem d272 {X : (Nat → Int32) × Nat} {d : Nat} {I : Nat → Nat → Int32} {J : Nat → Nat → Int64} {P : Nat → Nat → Value} {e r k r2 k2 : Nat}  {q : Unit × (Nat → Nat → Int32) × (Nat → Nat → Int64)} (hw : pm_W P r k r2 k2)  (h : f272  I J = some q) : pm_Fn X (d + 6) 272 1 [.ref 127] (I, J, P, pm_T0, e) (.inl none) (q.2.1, q.2.2, P, pm_T0, e) := by
  obtain ⟨hp, hw1, hw2, hw3, hw4, hw5, hw6, hw7, hw8, hw9, hw10, hw11⟩ := id hw
  have hwa := hw5.1
  have hwb := hw6.1
  have hwc := hw7.1
  have hwd := hw8.1
  unfold f272 at h
  refine fn_v rc272 (c := 12) (nf := 59) (by first | rfl | assumption) ml272 rfl rfl rfl rfl ?_
  refine r_ic c272_0 kI0 ?_
  refine is1 c272_1 rfl ?_
  exact (d272_L hw pm_FU).1 h
def f255 (x1 : Int32) (x2 : Int32) (x3 : Int32) (I : Nat → Nat → Int32) (J : Nat → Nat → Int64) : Option (Bool × (Nat → Nat → Int32) × (Nat → Nat → Int64)) := (if x1 = 0 then (f256  I J).bind (fun (ov61, I62, J63) => some (ov61, I62, J63)) else (if x1 = 1 then (f258 x2 x3 I J).bind (fun (ov57, I58, J59) => some (ov57, I58, J59)) else (if x1 = 4 then (if x1 = 4 then (f260 x2 1 I J).bind (fun (ov9, I10, J11) => some (ov9, I10, J11)) else (f260 x2 0 I J).bind (fun (ov5, I6, J7) => some (ov5, I6, J7))) else (if x1 = 5 then (if x1 = 4 then (f260 x2 1 I J).bind (fun (ov53, I54, J55) => some (ov53, I54, J55)) else (f260 x2 0 I J).bind (fun (ov49, I50, J51) => some (ov49, I50, J51))) else (if x1 = 6 then (f261 x2 I J).bind (fun (ov44, I45, J46) => some (ov44, I45, J46)) else (if x1 = 7 then pm_gd (pm_in 64 66) ((if (I 144 (64 : Int32).toNatClampNeg) = 900 then some (false, I, J) else (f272  I J).bind (fun (ov40, I41, J42) => some (true, I41, J42)))) else pm_gd (pm_in (24 + x2) 66) ((if x1 = 2 then pm_gd (pm_in (0 + x2) 66) ((if (I 144 (0 + x2).toNatClampNeg) = 2 then (if (I 144 (24 + x2).toNatClampNeg) = 99 then some (false, I, J) else (if x1 = 3 then pm_gd (pm_in (24 + x2) 66) (pm_lt (pm_w I 144 (24 + x2).toNatClampNeg 0) (fun I37 => some (true, I37, J))) else (if (99 : Int32).toInt < ((I 144 (24 + x2).toNatClampNeg) + x3).toInt then pm_gd (pm_in (24 + x2) 66) (pm_lt (pm_w I 144 (24 + x2).toNatClampNeg 99) (fun I35 => some (true, I35, J))) else pm_gd (pm_in (24 + x2) 66) (pm_lt (pm_w I 144 (24 + x2).toNatClampNeg ((I 144 (24 + x2).toNatClampNeg) + x3)) (fun I33 => some (true, I33, J)))))) else some (false, I, J))) else (if (I 144 (24 + x2).toNatClampNeg) = 0 then some (false, I, J) else (if x1 = 3 then pm_gd (pm_in (24 + x2) 66) (pm_lt (pm_w I 144 (24 + x2).toNatClampNeg 0) (fun I26 => some (true, I26, J))) else (if (99 : Int32).toInt < ((I 144 (24 + x2).toNatClampNeg) + x3).toInt then pm_gd (pm_in (24 + x2) 66) (pm_lt (pm_w I 144 (24 + x2).toNatClampNeg 99) (fun I24 => some (true, I24, J))) else pm_gd (pm_in (24 + x2) 66) (pm_lt (pm_w I 144 (24 + x2).toNatClampNeg ((I 144 (24 + x2).toNatClampNeg) + x3)) (fun I22 => some (true, I22, J))))))))))))))
theorem d255 {X : (Nat → Int32) × Nat} {d : Nat} {I : Nat → Nat → Int32} {J : Nat → Nat → Int64} {P : Nat → Nat → Value} {e r k r2 k2 : Nat} {x1 : Int32} {x2 : Int32} {x3 : Int32} {q : Bool × (Nat → Nat → Int32) × (Nat → Nat → Int64)} (hw : pm_W P r k r2 k2)  (h : f255 x1 x2 x3 I J = some q) : pm_Fn X (d + 8) 255 1 [.ref 127, .int x1, .int x2, .int x3] (I, J, P, pm_T0, e) (.inl (some (.int (pm_bi q.1)))) (q.2.1, q.2.2, P, pm_T0, e) := by
  obtain ⟨hp, hw1, hw2, hw3, hw4, hw5, hw6, hw7, hw8, hw9, hw10, hw11⟩ := id hw
  have hwa := hw5.1
  have hwb := hw6.1
  have hwc := hw7.1
  have hwd := hw8.1
  unfold f255 at h
  refine fn_v rc255 (c := 12) (nf := 59) (by first | rfl | assumption) ml255 rfl rfl rfl rfl ?_
  refine il1 c255_0 ?_
  refine r_ifne (t := 9) c255_1 rfl (fun h1 => ?_) (fun h1 => ?_)
  · rw [if_neg h1] at h
    refine il1 c255_9 ?_
    refine r_ic c255_10 kI1 ?_
    refine r_icne (t := 21) c255_11 rfl (fun h2 => ?_) (fun h2 => ?_)
    · rw [if_neg h2] at h
      refine il1 c255_21 ?_
      refine r_ic c255_22 kI4 ?_
      refine r_iceq (t := 31) c255_23 rfl (fun h3 => ?_) (fun h3 => ?_)
      · rw [if_pos h3] at h
        refine al0 c255_31 ?_
        refine il2 c255_32 ?_
        refine il1 c255_33 ?_
        refine r_ic c255_34 kI4 ?_
        refine r_icne (t := 42) c255_35 rfl (fun h4 => ?_) (fun h4 => ?_)
        · rw [if_neg h4] at h
          refine r_ic c255_42 kI0 ?_
          obtain ⟨⟨ov5, I6, J7⟩, e8, h⟩ := pm_bd_sp h
          dsimp only at h
          refine cv3 q255_43 (v := .int (pm_bi ov5)) (μ1 := (I6, J7, P, pm_T0, e)) (d260 hw e8) rfl ?_
          cases h
          exact r_rz c255_46 rt255 (pm_bi01 _) rfl rfl
        · rw [if_pos h4] at h
          refine r_ic c255_38 kI1 ?_
          refine r_go (t := 43) c255_39 rfl ?_
          obtain ⟨⟨ov9, I10, J11⟩, e12, h⟩ := pm_bd_sp h
          dsimp only at h
          refine cv3 q255_43 (v := .int (pm_bi ov9)) (μ1 := (I10, J11, P, pm_T0, e)) (d260 hw e12) rfl ?_
          cases h
          exact r_rz c255_46 rt255 (pm_bi01 _) rfl rfl
      · rw [if_neg h3] at h
        refine il1 c255_26 ?_
        refine r_ic c255_27 kI5 ?_
        refine r_icne (t := 47) c255_28 rfl (fun h13 => ?_) (fun h13 => ?_)
        · rw [if_neg h13] at h
          refine il1 c255_47 ?_
          refine r_bi c255_48 kB6 ?_
          refine r_icne (t := 59) c255_50 rfl (fun h14 => ?_) (fun h14 => ?_)
          · rw [if_neg h14] at h
            refine il1 c255_59 ?_
            refine r_bi c255_60 kB7 ?_
            refine r_icne (t := 86) c255_62 rfl (fun h15 => ?_) (fun h15 => ?_)
            · rw [if_neg h15] at h
              refine al0 c255_86 ?_
              refine r_gr g255_87 rfl rfl (hp _ _ _ rfl) ?_
              refine r_bi c255_90 kB24 ?_
              refine il2 c255_92 ?_
              refine r_iadd c255_93 ?_
              obtain ⟨gd16, h⟩ := pm_gd_sp h
              refine w_ia c255_94 (by first | rfl | assumption) gd16 ?_
              refine is4 c255_95 rfl ?_
              refine il1 c255_97 ?_
              refine r_ic c255_98 kI2 ?_
              refine r_icne (t := 124) c255_99 rfl (fun h17 => ?_) (fun h17 => ?_)
              · rw [if_neg h17] at h
                refine il4 c255_124 ?_
                refine r_ifne (t := 131) c255_126 rfl (fun h18 => ?_) (fun h18 => ?_)
                · rw [if_neg h18] at h
                  refine al0 c255_131 ?_
                  refine r_gr g255_132 rfl rfl (hp _ _ _ rfl) ?_
                  refine r_bi c255_135 kB24 ?_
                  refine il2 c255_137 ?_
                  refine r_iadd c255_138 ?_
                  refine il1 c255_139 ?_
                  refine r_ic c255_140 kI3 ?_
                  refine r_icne (t := 148) c255_141 rfl (fun h19 => ?_) (fun h19 => ?_)
                  · rw [if_neg h19] at h
                    refine il4 c255_148 ?_
                    refine il3 c255_150 ?_
                    refine r_iadd c255_151 ?_
                    refine r_bi c255_152 kB99 ?_
                    refine r_icle (t := 162) c255_154 rfl (fun h20 => ?_) (fun h20 => ?_)
                    · rw [if_neg (Int.not_lt.mpr h20)] at h
                      refine il4 c255_162 ?_
                      refine il3 c255_164 ?_
                      refine r_iadd c255_165 ?_
                      obtain ⟨gd21, h⟩ := pm_gd_sp h
                      refine w_ist c255_166 (by first | rfl | assumption) gd21 ?_
                      rw [pm_lt_eq] at h
                      generalize pm_w I 144 (24 + x2).toNatClampNeg ((I 144 (24 + x2).toNatClampNeg) + x3) = I22 at h ⊢
                      refine r_ic c255_167 kI1 ?_
                      cases h
                      exact r_rz c255_168 rt255 (by decide) rfl rfl
                    · rw [if_pos h20] at h
                      refine r_bi c255_157 kB99 ?_
                      refine r_go (t := 166) c255_159 rfl ?_
                      obtain ⟨gd23, h⟩ := pm_gd_sp h
                      refine w_ist c255_166 (by first | rfl | assumption) gd23 ?_
                      rw [pm_lt_eq] at h
                      generalize pm_w I 144 (24 + x2).toNatClampNeg 99 = I24 at h ⊢
                      refine r_ic c255_167 kI1 ?_
                      cases h
                      exact r_rz c255_168 rt255 (by decide) rfl rfl
                  · rw [if_pos h19] at h
                    refine r_ic c255_144 kI0 ?_
                    refine r_go (t := 166) c255_145 rfl ?_
                    obtain ⟨gd25, h⟩ := pm_gd_sp h
                    refine w_ist c255_166 (by first | rfl | assumption) gd25 ?_
                    rw [pm_lt_eq] at h
                    generalize pm_w I 144 (24 + x2).toNatClampNeg 0 = I26 at h ⊢
                    refine r_ic c255_167 kI1 ?_
                    cases h
                    exact r_rz c255_168 rt255 (by decide) rfl rfl
                · rw [if_pos h18] at h
                  refine r_ic c255_129 kI0 ?_
                  cases h
                  exact r_rz c255_130 rt255 (by decide) rfl rfl
              · rw [if_pos h17] at h
                refine al0 c255_102 ?_
                refine r_gr g255_103 rfl rfl (hp _ _ _ rfl) ?_
                refine r_ic c255_106 kI0 ?_
                refine il2 c255_107 ?_
                refine r_iadd c255_108 ?_
                obtain ⟨gd27, h⟩ := pm_gd_sp h
                refine w_ia c255_109 (by first | rfl | assumption) gd27 ?_
                refine r_ic c255_110 kI2 ?_
                refine r_icne (t := 129) c255_111 rfl (fun h28 => ?_) (fun h28 => ?_)
                · rw [if_neg h28] at h
                  refine r_ic c255_129 kI0 ?_
                  cases h
                  exact r_rz c255_130 rt255 (by decide) rfl rfl
                · rw [if_pos h28] at h
                  refine il4 c255_114 ?_
                  refine r_bi c255_116 kB99 ?_
                  refine r_icne (t := 131) c255_118 rfl (fun h29 => ?_) (fun h29 => ?_)
                  · rw [if_neg h29] at h
                    refine al0 c255_131 ?_
                    refine r_gr g255_132 rfl rfl (hp _ _ _ rfl) ?_
                    refine r_bi c255_135 kB24 ?_
                    refine il2 c255_137 ?_
                    refine r_iadd c255_138 ?_
                    refine il1 c255_139 ?_
                    refine r_ic c255_140 kI3 ?_
                    refine r_icne (t := 148) c255_141 rfl (fun h30 => ?_) (fun h30 => ?_)
                    · rw [if_neg h30] at h
                      refine il4 c255_148 ?_
                      refine il3 c255_150 ?_
                      refine r_iadd c255_151 ?_
                      refine r_bi c255_152 kB99 ?_
                      refine r_icle (t := 162) c255_154 rfl (fun h31 => ?_) (fun h31 => ?_)
                      · rw [if_neg (Int.not_lt.mpr h31)] at h
                        refine il4 c255_162 ?_
                        refine il3 c255_164 ?_
                        refine r_iadd c255_165 ?_
                        obtain ⟨gd32, h⟩ := pm_gd_sp h
                        refine w_ist c255_166 (by first | rfl | assumption) gd32 ?_
                        rw [pm_lt_eq] at h
                        generalize pm_w I 144 (24 + x2).toNatClampNeg ((I 144 (24 + x2).toNatClampNeg) + x3) = I33 at h ⊢
                        refine r_ic c255_167 kI1 ?_
                        cases h
                        exact r_rz c255_168 rt255 (by decide) rfl rfl
                      · rw [if_pos h31] at h
                        refine r_bi c255_157 kB99 ?_
                        refine r_go (t := 166) c255_159 rfl ?_
                        obtain ⟨gd34, h⟩ := pm_gd_sp h
                        refine w_ist c255_166 (by first | rfl | assumption) gd34 ?_
                        rw [pm_lt_eq] at h
                        generalize pm_w I 144 (24 + x2).toNatClampNeg 99 = I35 at h ⊢
                        refine r_ic c255_167 kI1 ?_
                        cases h
                        exact r_rz c255_168 rt255 (by decide) rfl rfl
                    · rw [if_pos h30] at h
                      refine r_ic c255_144 kI0 ?_
                      refine r_go (t := 166) c255_145 rfl ?_
                      obtain ⟨gd36, h⟩ := pm_gd_sp h
                      refine w_ist c255_166 (by first | rfl | assumption) gd36 ?_
                      rw [pm_lt_eq] at h
                      generalize pm_w I 144 (24 + x2).toNatClampNeg 0 = I37 at h ⊢
                      refine r_ic c255_167 kI1 ?_
                      cases h
                      exact r_rz c255_168 rt255 (by decide) rfl rfl
                  · rw [if_pos h29] at h
                    refine r_go (t := 129) c255_121 rfl ?_
                    refine r_ic c255_129 kI0 ?_
                    cases h
                    exact r_rz c255_130 rt255 (by decide) rfl rfl
            · rw [if_pos h15] at h
              refine al0 c255_65 ?_
              refine r_gr g255_66 rfl rfl (hp _ _ _ rfl) ?_
              refine r_bi c255_69 kB64 ?_
              obtain ⟨gd38, h⟩ := pm_gd_sp h
              refine w_ia c255_71 (by first | rfl | assumption) gd38 ?_
              refine r_si c255_72 kS900 ?_
              refine r_icne (t := 80) c255_75 rfl (fun h39 => ?_) (fun h39 => ?_)
              · rw [if_neg h39] at h
                refine al0 c255_80 ?_
                obtain ⟨⟨ov40, I41, J42⟩, e43, h⟩ := pm_bd_sp h
                dsimp only at h
                refine cz1 q255_81 (μ1 := (I41, J42, P, pm_T0, e)) (d272 hw e43) rfl ?_
                refine r_ic c255_84 kI1 ?_
                cases h
                exact r_rz c255_85 rt255 (by decide) rfl rfl
              · rw [if_pos h39] at h
                refine r_ic c255_78 kI0 ?_
                cases h
                exact r_rz c255_79 rt255 (by decide) rfl rfl
          · rw [if_pos h14] at h
            refine al0 c255_53 ?_
            refine il2 c255_54 ?_
            obtain ⟨⟨ov44, I45, J46⟩, e47, h⟩ := pm_bd_sp h
            dsimp only at h
            refine cv2 q255_55 (v := .int (pm_bi ov44)) (μ1 := (I45, J46, P, pm_T0, e)) (d261 hw e47) rfl ?_
            cases h
            exact r_rz c255_58 rt255 (pm_bi01 _) rfl rfl
        · rw [if_pos h13] at h
          refine al0 c255_31 ?_
          refine il2 c255_32 ?_
          refine il1 c255_33 ?_
          refine r_ic c255_34 kI4 ?_
          refine r_icne (t := 42) c255_35 rfl (fun h48 => ?_) (fun h48 => ?_)
          · rw [if_neg h48] at h
            refine r_ic c255_42 kI0 ?_
            obtain ⟨⟨ov49, I50, J51⟩, e52, h⟩ := pm_bd_sp h
            dsimp only at h
            refine cv3 q255_43 (v := .int (pm_bi ov49)) (μ1 := (I50, J51, P, pm_T0, e)) (d260 hw e52) rfl ?_
            cases h
            exact r_rz c255_46 rt255 (pm_bi01 _) rfl rfl
          · rw [if_pos h48] at h
            refine r_ic c255_38 kI1 ?_
            refine r_go (t := 43) c255_39 rfl ?_
            obtain ⟨⟨ov53, I54, J55⟩, e56, h⟩ := pm_bd_sp h
            dsimp only at h
            refine cv3 q255_43 (v := .int (pm_bi ov53)) (μ1 := (I54, J55, P, pm_T0, e)) (d260 hw e56) rfl ?_
            cases h
            exact r_rz c255_46 rt255 (pm_bi01 _) rfl rfl
    · rw [if_pos h2] at h
      refine al0 c255_14 ?_
      refine il2 c255_15 ?_
      refine il3 c255_16 ?_
      obtain ⟨⟨ov57, I58, J59⟩, e60, h⟩ := pm_bd_sp h
      dsimp only at h
      refine cv3 q255_17 (v := .int (pm_bi ov57)) (μ1 := (I58, J59, P, pm_T0, e)) (d258 hw e60) rfl ?_
      cases h
      exact r_rz c255_20 rt255 (pm_bi01 _) rfl rfl
  · rw [if_pos h1] at h
    refine al0 c255_4 ?_
    obtain ⟨⟨ov61, I62, J63⟩, e64, h⟩ := pm_bd_sp h
    dsimp only at h
    refine cv1 q255_5 (v := .int (pm_bi ov61)) (μ1 := (I62, J63, P, pm_T0, e)) (d256 hw e64) rfl ?_
    cases h
    exact r_rz c255_8 rt255 (pm_bi01 _) rfl rfl
def g254  : Nat → Nat → Nat → Int32 → Int32 → Int32 → Int32 → Int32 → (Nat → Nat → Int32) → (Nat → Nat → Int64) → Option (Unit × (Nat → Nat → Int32) × (Nat → Nat → Int64))
  | 0, _, _, _, _, _, _, _, _, _ => none
  | _ + 1, 0, _, _, _, _, _, _, _, _ => none
  | fu + 1, dep + 1, 0, x1, x2, _, _, _, I, J => g254 fu (dep + 1) 1 0 x2 x1 0 0 I J
  | fu + 1, dep + 1, 1, _, y2, y3, _, _, I, J => (if y3.toInt < y2.toInt then (if (I 127 34).toInt < (200 : Int32).toInt then pm_lt (pm_w I 127 34 ((I 127 34) + 1)) (fun I3 => pm_gd (pm_in y3 150) ((if (I3 142 (y3).toNatClampNeg) = 8 then pm_gd (pm_in (y3 + 2) 150) (g254 fu (dep + 1) 2 0 y2 y3 (I3 142 (y3 + 2).toNatClampNeg) 0 I3 J) else pm_gd (pm_in y3 150) (pm_gd (pm_in (y3 + 1) 150) (pm_gd (pm_in (y3 + 2) 150) ((f255 (I3 142 (y3).toNatClampNeg) (I3 142 (y3 + 1).toNatClampNeg) (I3 142 (y3 + 2).toNatClampNeg) I3 J).bind (fun (ov9, I10, J11) => (if ov9 = true then pm_lt (pm_w I10 127 35 ((I10 127 35) + 1)) (fun I15 => g254 fu (dep + 1) 1 0 y2 (y3 + 3) 0 0 I15 J11) else pm_lt (pm_w I10 127 36 ((I10 127 36) + 1)) (fun I14 => g254 fu (dep + 1) 1 0 y2 (y3 + 3) 0 0 I14 J11))))))))) else some ((), I, J)) else some ((), I, J))
  | fu + 1, dep + 1, _ + 2, _, y2, y3, y4, y5, I, J => pm_gd (pm_in (y3 + 1) 150) ((if y5.toInt < (I 142 (y3 + 1).toNatClampNeg).toInt then (if (I 127 34).toInt < (200 : Int32).toInt then (g254 fu dep 0 (y3 + 3) y4 0 0 0 I J).bind (fun (ov4, I5, J6) => g254 fu (dep + 1) 2 0 y2 y3 y4 (y5 + 1) I5 J6) else g254 fu (dep + 1) 1 0 y2 y4 0 0 I J) else g254 fu (dep + 1) 1 0 y2 y4 0 0 I J))
theorem dg254 {X : (Nat → Int32) × Nat} {d : Nat} {P : Nat → Nat → Value} {e r k r2 k2 : Nat}  (hw : pm_W P r k r2 k2)  : ∀ fu dep : Nat, (∀ {x1 x2 : Int32} {I : Nat → Nat → Int32} {J : Nat → Nat → Int64} {q : Unit × (Nat → Nat → Int32) × (Nat → Nat → Int64)} (h : g254 fu dep 0 x1 x2 0 0 0 I J = some q), pm_Fn X (d + dep + 9) 254 1 [.ref 127, .int x1, .int x2] (I, J, P, pm_T0, e) (.inl none) (q.2.1, q.2.2, P, pm_T0, e)) ∧ (∀ {y2 y3 : Int32} {I : Nat → Nat → Int32} {J : Nat → Nat → Int64} {q : Unit × (Nat → Nat → Int32) × (Nat → Nat → Int64)} {z1 : Value} {z4 : Value} {z5 : Value} (h : g254 fu dep 1 0 y2 y3 0 0 I J = some q), pm_Fx X (d + dep + 9) 254 2 [.ref 127, z1, .int y2, .int y3, z4, z5] [] (I, J, P, pm_T0, e) (.inl none) (q.2.1, q.2.2, P, pm_T0, e)) ∧ (∀ {y2 y3 y4 y5 : Int32} {I : Nat → Nat → Int32} {J : Nat → Nat → Int64} {q : Unit × (Nat → Nat → Int32) × (Nat → Nat → Int64)} {z1 : Value} (h : g254 fu dep 2 0 y2 y3 y4 y5 I J = some q), pm_Fx X (d + dep + 9) 254 51 [.ref 127, z1, .int y2, .int y3, .int y4, .int y5] [] (I, J, P, pm_T0, e) (.inl none) (q.2.1, q.2.2, P, pm_T0, e)) := by
  obtain ⟨hp, hw1, hw2, hw3, hw4, hw5, hw6, hw7, hw8, hw9, hw10, hw11⟩ := id hw
  have hwa := hw5.1
  have hwb := hw6.1
  have hwc := hw7.1
  have hwd := hw8.1
  intro fu
  induction fu with
  | zero => exact fun dep => ⟨(by intro x1 x2 I J q h; cases h), (by intro y2 y3 I J q z1 z4 z5 h; cases h), (by intro y2 y3 y4 y5 I J q z1 h; cases h)⟩
  | succ fu ih =>
    intro dep
    cases dep with
    | zero => exact ⟨(by intro x1 x2 I J q h; rw [g254] at h; cases h), (by intro y2 y3 I J q z1 z4 z5 h; rw [g254] at h; cases h), (by intro y2 y3 y4 y5 I J q z1 h; rw [g254] at h; cases h)⟩
    | succ dep =>
      have hd : d + (dep + 1) + 9 = d + dep + 9 + 1 := by omega
      refine ⟨?_, ?_, ?_⟩
      · intro x1 x2 I J q h
        rw [g254] at h
        rw [hd]
        refine fn_v rc254 (c := 12) (nf := 59) (by first | rfl | assumption) ml254 rfl rfl rfl rfl ?_
        refine il1 c254_0 ?_
        refine is3 c254_1 rfl ?_
        (rw [← hd]; exact (ih (dep + 1)).2.1 h)
      · intro y2 y3 I J q z1 z4 z5 h
        rw [g254] at h
        rw [hd]
        refine il3 c254_2 ?_
        refine il2 c254_3 ?_
        refine r_icge (t := 153) c254_4 rfl (fun h1 => ?_) (fun h1 => ?_)
        · rw [if_neg (Int.not_lt.mpr h1)] at h
          cases h
          exact r_rv c254_153 rt254 rfl
        · rw [if_pos h1] at h
          refine al0 c254_7 ?_
          refine r_gi g254_8 (by first | rfl | assumption) rfl ?_
          refine r_si c254_11 kS200 ?_
          refine r_icge (t := 153) c254_14 rfl (fun h2 => ?_) (fun h2 => ?_)
          · rw [if_neg (Int.not_lt.mpr h2)] at h
            cases h
            exact r_rv c254_153 rt254 rfl
          · rw [if_pos h2] at h
            refine al0 c254_17 ?_
            refine r_dpr c254_18 ?_
            refine r_gi g254_19 (by first | rfl | assumption) rfl ?_
            refine r_ic c254_22 kI1 ?_
            refine r_iadd c254_23 ?_
            refine w_pi p254_24 (by first | rfl | assumption) rfl ?_
            rw [pm_lt_eq] at h
            generalize pm_w I 127 34 ((I 127 34) + 1) = I3 at h ⊢
            refine al0 c254_27 ?_
            refine r_gr g254_28 rfl rfl (hp _ _ _ rfl) ?_
            refine il3 c254_31 ?_
            obtain ⟨gd4, h⟩ := pm_gd_sp h
            refine w_ia c254_32 (by first | rfl | assumption) gd4 ?_
            refine r_bi c254_33 kB8 ?_
            refine r_icne (t := 95) c254_35 rfl (fun h5 => ?_) (fun h5 => ?_)
            · rw [if_neg h5] at h
              refine al0 c254_95 ?_
              refine al0 c254_96 ?_
              refine r_gr g254_97 rfl rfl (hp _ _ _ rfl) ?_
              refine il3 c254_100 ?_
              obtain ⟨gd6, h⟩ := pm_gd_sp h
              refine w_ia c254_101 (by first | rfl | assumption) gd6 ?_
              refine al0 c254_102 ?_
              refine r_gr g254_103 rfl rfl (hp _ _ _ rfl) ?_
              refine il3 c254_106 ?_
              refine r_ic c254_107 kI1 ?_
              refine r_iadd c254_108 ?_
              obtain ⟨gd7, h⟩ := pm_gd_sp h
              refine w_ia c254_109 (by first | rfl | assumption) gd7 ?_
              refine al0 c254_110 ?_
              refine r_gr g254_111 rfl rfl (hp _ _ _ rfl) ?_
              refine il3 c254_114 ?_
              refine r_ic c254_115 kI2 ?_
              refine r_iadd c254_116 ?_
              obtain ⟨gd8, h⟩ := pm_gd_sp h
              refine w_ia c254_117 (by first | rfl | assumption) gd8 ?_
              obtain ⟨⟨ov9, I10, J11⟩, e12, h⟩ := pm_bd_sp h
              dsimp only at h
              refine cv4 q254_118 (v := .int (pm_bi ov9)) (μ1 := (I10, J11, P, pm_T0, e)) (d255 hw e12) rfl ?_
              refine r_ifeq (t := 137) c254_121 rfl (fun h13 => ?_) (fun h13 => ?_)
              · rw [if_neg (pm_bf h13)] at h
                refine al0 c254_137 ?_
                refine r_dpr c254_138 ?_
                refine r_gi g254_139 (by first | rfl | assumption) rfl ?_
                refine r_ic c254_142 kI1 ?_
                refine r_iadd c254_143 ?_
                refine w_pi p254_144 (by first | rfl | assumption) rfl ?_
                rw [pm_lt_eq] at h
                generalize pm_w I10 127 36 ((I10 127 36) + 1) = I14 at h ⊢
                refine ii3 c254_147 kI3 rfl ?_
                refine r_go (t := 2) c254_150 rfl ?_
                (rw [← hd]; exact (ih (dep + 1)).2.1 h)
              · rw [if_pos (pm_bt h13)] at h
                refine al0 c254_124 ?_
                refine r_dpr c254_125 ?_
                refine r_gi g254_126 (by first | rfl | assumption) rfl ?_
                refine r_ic c254_129 kI1 ?_
                refine r_iadd c254_130 ?_
                refine w_pi p254_131 (by first | rfl | assumption) rfl ?_
                rw [pm_lt_eq] at h
                generalize pm_w I10 127 35 ((I10 127 35) + 1) = I15 at h ⊢
                refine r_go (t := 147) c254_134 rfl ?_
                refine ii3 c254_147 kI3 rfl ?_
                refine r_go (t := 2) c254_150 rfl ?_
                (rw [← hd]; exact (ih (dep + 1)).2.1 h)
            · rw [if_pos h5] at h
              refine al0 c254_38 ?_
              refine r_gr g254_39 rfl rfl (hp _ _ _ rfl) ?_
              refine il3 c254_42 ?_
              refine r_ic c254_43 kI2 ?_
              refine r_iadd c254_44 ?_
              obtain ⟨gd16, h⟩ := pm_gd_sp h
              refine w_ia c254_45 (by first | rfl | assumption) gd16 ?_
              refine is4 c254_46 rfl ?_
              refine r_ic c254_48 kI0 ?_
              refine is5 c254_49 rfl ?_
              (rw [← hd]; exact (ih (dep + 1)).2.2 h)
      · intro y2 y3 y4 y5 I J q z1 h
        rw [g254] at h
        rw [hd]
        refine il5 c254_51 ?_
        refine al0 c254_53 ?_
        refine r_gr g254_54 rfl rfl (hp _ _ _ rfl) ?_
        refine il3 c254_57 ?_
        refine r_ic c254_58 kI1 ?_
        refine r_iadd c254_59 ?_
        obtain ⟨gd1, h⟩ := pm_gd_sp h
        refine w_ia c254_60 (by first | rfl | assumption) gd1 ?_
        refine r_icge (t := 89) c254_61 rfl (fun h2 => ?_) (fun h2 => ?_)
        · rw [if_neg (Int.not_lt.mpr h2)] at h
          refine il4 c254_89 ?_
          refine is3 c254_91 rfl ?_
          refine r_go (t := 2) c254_92 rfl ?_
          (rw [← hd]; exact (ih (dep + 1)).2.1 h)
        · rw [if_pos h2] at h
          refine al0 c254_64 ?_
          refine r_gi g254_65 (by first | rfl | assumption) rfl ?_
          refine r_si c254_68 kS200 ?_
          refine r_icge (t := 89) c254_71 rfl (fun h3 => ?_) (fun h3 => ?_)
          · rw [if_neg (Int.not_lt.mpr h3)] at h
            refine il4 c254_89 ?_
            refine is3 c254_91 rfl ?_
            refine r_go (t := 2) c254_92 rfl ?_
            (rw [← hd]; exact (ih (dep + 1)).2.1 h)
          · rw [if_pos h3] at h
            refine al0 c254_74 ?_
            refine il3 c254_75 ?_
            refine r_ic c254_76 kI3 ?_
            refine r_iadd c254_77 ?_
            refine il4 c254_78 ?_
            obtain ⟨⟨ov4, I5, J6⟩, e7, h⟩ := pm_bd_sp h
            dsimp only at h
            refine cz3 q254_80 (μ1 := (I5, J6, P, pm_T0, e)) ((ih dep).1 e7) rfl ?_
            refine ii5 c254_83 kI1 rfl ?_
            refine r_go (t := 51) c254_86 rfl ?_
            (rw [← hd]; exact (ih (dep + 1)).2.2 h)
def f254 (x1 : Int32) (x2 : Int32) (I : Nat → Nat → Int32) (J : Nat → Nat → Int64) : Option (Unit × (Nat → Nat → Int32) × (Nat → Nat → Int64)) := g254 pm_FU 40 0 x1 x2 0 0 0 I J
theorem d254 {X : (Nat → Int32) × Nat} {d : Nat} {I : Nat → Nat → Int32} {J : Nat → Nat → Int64} {P : Nat → Nat → Value} {e r k r2 k2 : Nat} {x1 : Int32} {x2 : Int32} {q : Unit × (Nat → Nat → Int32) × (Nat → Nat → Int64)} (hw : pm_W P r k r2 k2)  (h : f254 x1 x2 I J = some q) : pm_Fn X (d + 49) 254 1 [.ref 127, .int x1, .int x2] (I, J, P, pm_T0, e) (.inl none) (q.2.1, q.2.2, P, pm_T0, e) := by
  have hd : d + 40 + 9 = d + 49 := by omega
  rw [← hd]
  exact (dg254 hw pm_FU 40).1 h
def f249_L  : Nat → Nat → Int32 → (Nat → Nat → Int32) → (Nat → Nat → Int64) → Option (Int32 × (Nat → Nat → Int32) × (Nat → Nat → Int64))
  | 0, _, _, _, _ => none
  | fu + 1, 0, _, I, J => (if (v224  I) = true then (f225  I J).bind (fun (ov11, I12, J13) => (if ov11 = true then (f250  I12 J13).bind (fun (ov25, I26, J27) => f249_L fu 0 0 I26 J27) else (f239 0 I12 J13).bind (fun (ov16, I17, J18) => (if (I17 127 5) = (-1) then (f218 141 150 142 150 (I17 127 31) I17 J18).bind (fun (ov21, I22, J23) => f249_L fu 1 0 I22 J23) else some (ov16, I17, J18))))) else (f239 0 I J).bind (fun (ov2, I3, J4) => (if (I3 127 5) = (-1) then (f218 141 150 142 150 (I3 127 31) I3 J4).bind (fun (ov7, I8, J9) => f249_L fu 1 0 I8 J9) else some (ov2, I3, J4))))
  | fu + 1, _ + 1, y3, I, J => (if y3.toInt < (66 : Int32).toInt then pm_gd (pm_in y3 66) (pm_gd (pm_in ((66 * (I 127 32)) + y3) 1056) (pm_lt (pm_w I 145 ((66 * (I 127 32)) + y3).toNatClampNeg (I 143 (y3).toNatClampNeg)) (fun I49 => f249_L fu 1 (y3 + 1) I49 J))) else pm_lt (pm_w I 127 32 ((I 127 32) + 1)) (fun I30 => (f253  I30 J).bind (fun (ov31, I32, J33) => pm_lt (pm_w I32 127 34 0) (fun I35 => pm_lt (pm_w I35 127 35 0) (fun I36 => pm_lt (pm_w I36 127 36 0) (fun I37 => (f254 0 (I37 127 31) I37 J33).bind (fun (ov38, I39, J40) => (f218 144 66 143 66 66 I39 J40).bind (fun (ov42, I43, J44) => pm_lt (pm_w I43 127 33 (I43 127 36)) (fun I46 => some (I46 127 35, I46, J44))))))))))
def f249 (x1 : Int32) (I : Nat → Nat → Int32) (J : Nat → Nat → Int64) : Option (Int32 × (Nat → Nat → Int32) × (Nat → Nat → Int64)) := pm_lt (pm_w I 127 0 0) (fun I1 => (if x1.toInt < 0 then (f222 0 1 1 I1 J).bind (fun (ov3, I4, J5) => (if ov3 = true then (f223 x1 I4 J5).bind (fun (ov8, I9, J10) => (if (I9 127 32) = 16 then (f239 0 I9 J10).bind (fun (ov14, I15, J16) => some ((-20), I15, J16)) else pm_lt (pm_w I9 127 31 0) (fun I13 => f249_L pm_FU 0 0 I13 J10))) else some (0, I4, J5))) else (if (I1 127 2).toInt < x1.toInt then (f222 0 1 1 I1 J).bind (fun (ov19, I20, J21) => (if ov19 = true then (f223 x1 I20 J21).bind (fun (ov24, I25, J26) => (if (I25 127 32) = 16 then (f239 0 I25 J26).bind (fun (ov30, I31, J32) => some ((-20), I31, J32)) else pm_lt (pm_w I25 127 31 0) (fun I29 => f249_L pm_FU 0 0 I29 J26))) else some (0, I20, J21))) else (if (150 : Int32).toInt < x1.toInt then (f222 0 1 1 I1 J).bind (fun (ov35, I36, J37) => (if ov35 = true then (f223 x1 I36 J37).bind (fun (ov40, I41, J42) => (if (I41 127 32) = 16 then (f239 0 I41 J42).bind (fun (ov46, I47, J48) => some ((-20), I47, J48)) else pm_lt (pm_w I41 127 31 0) (fun I45 => f249_L pm_FU 0 0 I45 J42))) else some (0, I36, J37))) else (f222 1 1 1 I1 J).bind (fun (ov50, I51, J52) => (if ov50 = true then (f223 x1 I51 J52).bind (fun (ov55, I56, J57) => (if (I56 127 32) = 16 then (f239 0 I56 J57).bind (fun (ov61, I62, J63) => some ((-20), I62, J63)) else pm_lt (pm_w I56 127 31 0) (fun I60 => f249_L pm_FU 0 0 I60 J57))) else some (0, I51, J52)))))))
theorem d249_L {X : (Nat → Int32) × Nat} {d : Nat} {P : Nat → Nat → Value} {e r k r2 k2 : Nat}  (hw : pm_W P r k r2 k2)  : ∀ fu : Nat, (∀ {I : Nat → Nat → Int32} {J : Nat → Nat → Int64} {q : Int32 × (Nat → Nat → Int32) × (Nat → Nat → Int64)} {z1 : Value} {z2 : Value} {z3 : Value} (h : f249_L fu 0 0 I J = some q), pm_Fx X (d + 50) 249 68 [.ref 127, z1, z2, z3] [] (I, J, P, pm_T0, e) (.inl (some (.int q.1))) (q.2.1, q.2.2, P, pm_T0, e)) ∧ (∀ {y3 : Int32} {I : Nat → Nat → Int32} {J : Nat → Nat → Int64} {q : Int32 × (Nat → Nat → Int32) × (Nat → Nat → Int64)} {z1 : Value} {z2 : Value} (h : f249_L fu 1 y3 I J = some q), pm_Fx X (d + 50) 249 123 [.ref 127, z1, z2, .int y3] [] (I, J, P, pm_T0, e) (.inl (some (.int q.1))) (q.2.1, q.2.2, P, pm_T0, e)) := by
  obtain ⟨hp, hw1, hw2, hw3, hw4, hw5, hw6, hw7, hw8, hw9, hw10, hw11⟩ := id hw
  have hwa := hw5.1
  have hwb := hw6.1
  have hwc := hw7.1
  have hwd := hw8.1
  intro fu
  induction fu with
  | zero => exact ⟨(by intro I J q z1 z2 z3 h; cases h), (by intro y3 I J q z1 z2 h; cases h)⟩
  | succ fu ih =>
    refine ⟨?_, ?_⟩
    · intro I J q z1 z2 z3 h
      rw [f249_L] at h
      refine al0 c249_68 ?_
      refine cv1 q249_69 (d224 hw rfl) rfl ?_
      refine r_ifeq (t := 89) c249_72 rfl (fun h1 => ?_) (fun h1 => ?_)
      · rw [if_neg (pm_bf h1)] at h
        refine al0 c249_89 ?_
        refine r_ic c249_90 kI0 ?_
        obtain ⟨⟨ov2, I3, J4⟩, e5, h⟩ := pm_bd_sp h
        dsimp only at h
        refine cv2 q249_91 (v := .int ov2) (μ1 := (I3, J4, P, pm_T0, e)) (d239 hw e5) rfl ?_
        refine is2c c249_94 ?_
        refine al0 c249_95 ?_
        refine r_gi g249_96 (by first | rfl | assumption) rfl ?_
        refine r_ic c249_99 kIm1 ?_
        refine r_iceq (t := 105) c249_100 rfl (fun h6 => ?_) (fun h6 => ?_)
        · rw [if_pos h6] at h
          refine al0 c249_105 ?_
          refine al0 c249_106 ?_
          refine r_gr g249_107 rfl rfl (hp _ _ _ rfl) ?_
          refine al0 c249_110 ?_
          refine r_gr g249_111 rfl rfl (hp _ _ _ rfl) ?_
          refine al0 c249_114 ?_
          refine r_gi g249_115 (by first | rfl | assumption) rfl ?_
          obtain ⟨⟨ov7, I8, J9⟩, e10, h⟩ := pm_bd_sp h
          dsimp only at h
          refine cz4 q249_118 (μ1 := (I8, J9, P, pm_T0, e)) (d218 hw (by first | rfl | assumption | decide) (by first | rfl | assumption | decide) (by first | rfl | assumption | decide) (by first | rfl | assumption | decide) e10) rfl ?_
          refine r_ic c249_121 kI0 ?_
          refine is3 c249_122 rfl ?_
          exact ih.2 h
        · rw [if_neg h6] at h
          refine il2 c249_103 ?_
          cases h
          exact r_ri c249_104 rt249 rfl rfl
      · rw [if_pos (pm_bt h1)] at h
        refine al0 c249_75 ?_
        obtain ⟨⟨ov11, I12, J13⟩, e14, h⟩ := pm_bd_sp h
        dsimp only at h
        refine cv1 q249_76 (v := .int (pm_bi ov11)) (μ1 := (I12, J13, P, pm_T0, e)) (d225 hw e14) rfl ?_
        refine r_ifeq (t := 89) c249_79 rfl (fun h15 => ?_) (fun h15 => ?_)
        · rw [if_neg (pm_bf h15)] at h
          refine al0 c249_89 ?_
          refine r_ic c249_90 kI0 ?_
          obtain ⟨⟨ov16, I17, J18⟩, e19, h⟩ := pm_bd_sp h
          dsimp only at h
          refine cv2 q249_91 (v := .int ov16) (μ1 := (I17, J18, P, pm_T0, e)) (d239 hw e19) rfl ?_
          refine is2c c249_94 ?_
          refine al0 c249_95 ?_
          refine r_gi g249_96 (by first | rfl | assumption) rfl ?_
          refine r_ic c249_99 kIm1 ?_
          refine r_iceq (t := 105) c249_100 rfl (fun h20 => ?_) (fun h20 => ?_)
          · rw [if_pos h20] at h
            refine al0 c249_105 ?_
            refine al0 c249_106 ?_
            refine r_gr g249_107 rfl rfl (hp _ _ _ rfl) ?_
            refine al0 c249_110 ?_
            refine r_gr g249_111 rfl rfl (hp _ _ _ rfl) ?_
            refine al0 c249_114 ?_
            refine r_gi g249_115 (by first | rfl | assumption) rfl ?_
            obtain ⟨⟨ov21, I22, J23⟩, e24, h⟩ := pm_bd_sp h
            dsimp only at h
            refine cz4 q249_118 (μ1 := (I22, J23, P, pm_T0, e)) (d218 hw (by first | rfl | assumption | decide) (by first | rfl | assumption | decide) (by first | rfl | assumption | decide) (by first | rfl | assumption | decide) e24) rfl ?_
            refine r_ic c249_121 kI0 ?_
            refine is3 c249_122 rfl ?_
            exact ih.2 h
          · rw [if_neg h20] at h
            refine il2 c249_103 ?_
            cases h
            exact r_ri c249_104 rt249 rfl rfl
        · rw [if_pos (pm_bt h15)] at h
          refine al0 c249_82 ?_
          obtain ⟨⟨ov25, I26, J27⟩, e28, h⟩ := pm_bd_sp h
          dsimp only at h
          refine cz1 q249_83 (μ1 := (I26, J27, P, pm_T0, e)) (d250 hw e28) rfl ?_
          refine r_go (t := 68) c249_86 rfl ?_
          exact ih.1 h
    · intro y3 I J q z1 z2 h
      rw [f249_L] at h
      refine il3 c249_123 ?_
      refine r_bi c249_124 kB66 ?_
      refine r_icge (t := 155) c249_126 rfl (fun h29 => ?_) (fun h29 => ?_)
      · rw [if_neg (Int.not_lt.mpr h29)] at h
        refine al0 c249_155 ?_
        refine r_dpr c249_156 ?_
        refine r_gi g249_157 (by first | rfl | assumption) rfl ?_
        refine r_ic c249_160 kI1 ?_
        refine r_iadd c249_161 ?_
        refine w_pi p249_162 (by first | rfl | assumption) rfl ?_
        rw [pm_lt_eq] at h
        generalize pm_w I 127 32 ((I 127 32) + 1) = I30 at h ⊢
        refine al0 c249_165 ?_
        obtain ⟨⟨ov31, I32, J33⟩, e34, h⟩ := pm_bd_sp h
        dsimp only at h
        refine cz1 q249_166 (μ1 := (I32, J33, P, pm_T0, e)) (d253 hw e34) rfl ?_
        refine al0 c249_169 ?_
        refine r_ic c249_170 kI0 ?_
        refine w_pi p249_171 (by first | rfl | assumption) rfl ?_
        rw [pm_lt_eq] at h
        generalize pm_w I32 127 34 0 = I35 at h ⊢
        refine al0 c249_174 ?_
        refine r_ic c249_175 kI0 ?_
        refine w_pi p249_176 (by first | rfl | assumption) rfl ?_
        rw [pm_lt_eq] at h
        generalize pm_w I35 127 35 0 = I36 at h ⊢
        refine al0 c249_179 ?_
        refine r_ic c249_180 kI0 ?_
        refine w_pi p249_181 (by first | rfl | assumption) rfl ?_
        rw [pm_lt_eq] at h
        generalize pm_w I36 127 36 0 = I37 at h ⊢
        refine al0 c249_184 ?_
        refine r_ic c249_185 kI0 ?_
        refine al0 c249_186 ?_
        refine r_gi g249_187 (by first | rfl | assumption) rfl ?_
        obtain ⟨⟨ov38, I39, J40⟩, e41, h⟩ := pm_bd_sp h
        dsimp only at h
        refine cz3 q249_190 (μ1 := (I39, J40, P, pm_T0, e)) (d254 hw e41) rfl ?_
        refine al0 c249_193 ?_
        refine al0 c249_194 ?_
        refine r_gr g249_195 rfl rfl (hp _ _ _ rfl) ?_
        refine al0 c249_198 ?_
        refine r_gr g249_199 rfl rfl (hp _ _ _ rfl) ?_
        refine r_bi c249_202 kB66 ?_
        obtain ⟨⟨ov42, I43, J44⟩, e45, h⟩ := pm_bd_sp h
        dsimp only at h
        refine cz4 q249_204 (μ1 := (I43, J44, P, pm_T0, e)) (d218 hw (by first | rfl | assumption | decide) (by first | rfl | assumption | decide) (by first | rfl | assumption | decide) (by first | rfl | assumption | decide) e45) rfl ?_
        refine al0 c249_207 ?_
        refine al0 c249_208 ?_
        refine r_gi g249_209 (by first | rfl | assumption) rfl ?_
        refine w_pi p249_212 (by first | rfl | assumption) rfl ?_
        rw [pm_lt_eq] at h
        generalize pm_w I43 127 33 (I43 127 36) = I46 at h ⊢
        refine al0 c249_215 ?_
        refine r_gi g249_216 (by first | rfl | assumption) rfl ?_
        cases h
        exact r_ri c249_219 rt249 rfl rfl
      · rw [if_pos h29] at h
        refine al0 c249_129 ?_
        refine r_gr g249_130 rfl rfl (hp _ _ _ rfl) ?_
        refine r_bi c249_133 kB66 ?_
        refine al0 c249_135 ?_
        refine r_gi g249_136 (by first | rfl | assumption) rfl ?_
        refine r_imul c249_139 ?_
        refine il3 c249_140 ?_
        refine r_iadd c249_141 ?_
        refine al0 c249_142 ?_
        refine r_gr g249_143 rfl rfl (hp _ _ _ rfl) ?_
        refine il3 c249_146 ?_
        obtain ⟨gd47, h⟩ := pm_gd_sp h
        refine w_ia c249_147 (by first | rfl | assumption) gd47 ?_
        obtain ⟨gd48, h⟩ := pm_gd_sp h
        refine w_ist c249_148 (by first | rfl | assumption) gd48 ?_
        rw [pm_lt_eq] at h
        generalize pm_w I 145 ((66 * (I 127 32)) + y3).toNatClampNeg (I 143 (y3).toNatClampNeg) = I49 at h ⊢
        refine ii3c c249_149 kI1 ?_
        refine r_go (t := 123) c249_152 rfl ?_
        exact ih.2 h
theorem d249 {X : (Nat → Int32) × Nat} {d : Nat} {I : Nat → Nat → Int32} {J : Nat → Nat → Int64} {P : Nat → Nat → Value} {e r k r2 k2 : Nat} {x1 : Int32} {q : Int32 × (Nat → Nat → Int32) × (Nat → Nat → Int64)} (hw : pm_W P r k r2 k2)  (h : f249 x1 I J = some q) : pm_Fn X (d + 50) 249 1 [.ref 127, .int x1] (I, J, P, pm_T0, e) (.inl (some (.int q.1))) (q.2.1, q.2.2, P, pm_T0, e) := by
  obtain ⟨hp, hw1, hw2, hw3, hw4, hw5, hw6, hw7, hw8, hw9, hw10, hw11⟩ := id hw
  have hwa := hw5.1
  have hwb := hw6.1
  have hwc := hw7.1
  have hwd := hw8.1
  unfold f249 at h
  refine fn_v rc249 (c := 12) (nf := 59) (by first | rfl | assumption) ml249 rfl rfl rfl rfl ?_
  refine al0 c249_0 ?_
  refine r_ic c249_1 kI0 ?_
  refine w_pi p249_2 (by first | rfl | assumption) rfl ?_
  rw [pm_lt_eq] at h
  generalize pm_w I 127 0 0 = I1 at h ⊢
  refine al0 c249_5 ?_
  refine il1 c249_6 ?_
  refine r_iflt (t := 29) c249_7 rfl (fun h2 => ?_) (fun h2 => ?_)
  · rw [if_pos h2] at h
    refine r_ic c249_29 kI0 ?_
    refine r_ic c249_30 kI1 ?_
    refine r_ic c249_31 kI1 ?_
    obtain ⟨⟨ov3, I4, J5⟩, e6, h⟩ := pm_bd_sp h
    dsimp only at h
    refine cv4 q249_32 (v := .int (pm_bi ov3)) (μ1 := (I4, J5, P, pm_T0, e)) (d222 hw e6) rfl ?_
    refine r_ifne (t := 40) c249_35 rfl (fun h7 => ?_) (fun h7 => ?_)
    · rw [if_pos (pm_bt h7)] at h
      refine al0 c249_40 ?_
      refine il1 c249_41 ?_
      obtain ⟨⟨ov8, I9, J10⟩, e11, h⟩ := pm_bd_sp h
      dsimp only at h
      refine cz2 q249_42 (μ1 := (I9, J10, P, pm_T0, e)) (d223 hw e11) rfl ?_
      refine al0 c249_45 ?_
      refine r_gi g249_46 (by first | rfl | assumption) rfl ?_
      refine r_bi c249_49 kB16 ?_
      refine r_icne (t := 63) c249_51 rfl (fun h12 => ?_) (fun h12 => ?_)
      · rw [if_neg h12] at h
        refine al0 c249_63 ?_
        refine r_ic c249_64 kI0 ?_
        refine w_pi p249_65 (by first | rfl | assumption) rfl ?_
        rw [pm_lt_eq] at h
        generalize pm_w I9 127 31 0 = I13 at h ⊢
        exact (d249_L hw pm_FU).1 h
      · rw [if_pos h12] at h
        refine al0 c249_54 ?_
        refine r_ic c249_55 kI0 ?_
        obtain ⟨⟨ov14, I15, J16⟩, e17, h⟩ := pm_bd_sp h
        dsimp only at h
        refine cv2 q249_56 (v := .int ov14) (μ1 := (I15, J16, P, pm_T0, e)) (d239 hw e17) rfl ?_
        refine r_pp c249_59 ?_
        refine r_bi c249_60 kBm20 ?_
        cases h
        exact r_ri c249_62 rt249 rfl rfl
    · rw [if_neg (pm_bf h7)] at h
      refine r_ic c249_38 kI0 ?_
      cases h
      exact r_ri c249_39 rt249 rfl rfl
  · rw [if_neg (Int.not_lt.mpr h2)] at h
    refine il1 c249_10 ?_
    refine al0 c249_11 ?_
    refine r_gi g249_12 (by first | rfl | assumption) rfl ?_
    refine r_icgt (t := 29) c249_15 rfl (fun h18 => ?_) (fun h18 => ?_)
    · rw [if_pos h18] at h
      refine r_ic c249_29 kI0 ?_
      refine r_ic c249_30 kI1 ?_
      refine r_ic c249_31 kI1 ?_
      obtain ⟨⟨ov19, I20, J21⟩, e22, h⟩ := pm_bd_sp h
      dsimp only at h
      refine cv4 q249_32 (v := .int (pm_bi ov19)) (μ1 := (I20, J21, P, pm_T0, e)) (d222 hw e22) rfl ?_
      refine r_ifne (t := 40) c249_35 rfl (fun h23 => ?_) (fun h23 => ?_)
      · rw [if_pos (pm_bt h23)] at h
        refine al0 c249_40 ?_
        refine il1 c249_41 ?_
        obtain ⟨⟨ov24, I25, J26⟩, e27, h⟩ := pm_bd_sp h
        dsimp only at h
        refine cz2 q249_42 (μ1 := (I25, J26, P, pm_T0, e)) (d223 hw e27) rfl ?_
        refine al0 c249_45 ?_
        refine r_gi g249_46 (by first | rfl | assumption) rfl ?_
        refine r_bi c249_49 kB16 ?_
        refine r_icne (t := 63) c249_51 rfl (fun h28 => ?_) (fun h28 => ?_)
        · rw [if_neg h28] at h
          refine al0 c249_63 ?_
          refine r_ic c249_64 kI0 ?_
          refine w_pi p249_65 (by first | rfl | assumption) rfl ?_
          rw [pm_lt_eq] at h
          generalize pm_w I25 127 31 0 = I29 at h ⊢
          exact (d249_L hw pm_FU).1 h
        · rw [if_pos h28] at h
          refine al0 c249_54 ?_
          refine r_ic c249_55 kI0 ?_
          obtain ⟨⟨ov30, I31, J32⟩, e33, h⟩ := pm_bd_sp h
          dsimp only at h
          refine cv2 q249_56 (v := .int ov30) (μ1 := (I31, J32, P, pm_T0, e)) (d239 hw e33) rfl ?_
          refine r_pp c249_59 ?_
          refine r_bi c249_60 kBm20 ?_
          cases h
          exact r_ri c249_62 rt249 rfl rfl
      · rw [if_neg (pm_bf h23)] at h
        refine r_ic c249_38 kI0 ?_
        cases h
        exact r_ri c249_39 rt249 rfl rfl
    · rw [if_neg (Int.not_lt.mpr h18)] at h
      refine il1 c249_18 ?_
      refine r_si c249_19 kS150 ?_
      refine r_icgt (t := 29) c249_22 rfl (fun h34 => ?_) (fun h34 => ?_)
      · rw [if_pos h34] at h
        refine r_ic c249_29 kI0 ?_
        refine r_ic c249_30 kI1 ?_
        refine r_ic c249_31 kI1 ?_
        obtain ⟨⟨ov35, I36, J37⟩, e38, h⟩ := pm_bd_sp h
        dsimp only at h
        refine cv4 q249_32 (v := .int (pm_bi ov35)) (μ1 := (I36, J37, P, pm_T0, e)) (d222 hw e38) rfl ?_
        refine r_ifne (t := 40) c249_35 rfl (fun h39 => ?_) (fun h39 => ?_)
        · rw [if_pos (pm_bt h39)] at h
          refine al0 c249_40 ?_
          refine il1 c249_41 ?_
          obtain ⟨⟨ov40, I41, J42⟩, e43, h⟩ := pm_bd_sp h
          dsimp only at h
          refine cz2 q249_42 (μ1 := (I41, J42, P, pm_T0, e)) (d223 hw e43) rfl ?_
          refine al0 c249_45 ?_
          refine r_gi g249_46 (by first | rfl | assumption) rfl ?_
          refine r_bi c249_49 kB16 ?_
          refine r_icne (t := 63) c249_51 rfl (fun h44 => ?_) (fun h44 => ?_)
          · rw [if_neg h44] at h
            refine al0 c249_63 ?_
            refine r_ic c249_64 kI0 ?_
            refine w_pi p249_65 (by first | rfl | assumption) rfl ?_
            rw [pm_lt_eq] at h
            generalize pm_w I41 127 31 0 = I45 at h ⊢
            exact (d249_L hw pm_FU).1 h
          · rw [if_pos h44] at h
            refine al0 c249_54 ?_
            refine r_ic c249_55 kI0 ?_
            obtain ⟨⟨ov46, I47, J48⟩, e49, h⟩ := pm_bd_sp h
            dsimp only at h
            refine cv2 q249_56 (v := .int ov46) (μ1 := (I47, J48, P, pm_T0, e)) (d239 hw e49) rfl ?_
            refine r_pp c249_59 ?_
            refine r_bi c249_60 kBm20 ?_
            cases h
            exact r_ri c249_62 rt249 rfl rfl
        · rw [if_neg (pm_bf h39)] at h
          refine r_ic c249_38 kI0 ?_
          cases h
          exact r_ri c249_39 rt249 rfl rfl
      · rw [if_neg (Int.not_lt.mpr h34)] at h
        refine r_ic c249_25 kI1 ?_
        refine r_go (t := 30) c249_26 rfl ?_
        refine r_ic c249_30 kI1 ?_
        refine r_ic c249_31 kI1 ?_
        obtain ⟨⟨ov50, I51, J52⟩, e53, h⟩ := pm_bd_sp h
        dsimp only at h
        refine cv4 q249_32 (v := .int (pm_bi ov50)) (μ1 := (I51, J52, P, pm_T0, e)) (d222 hw e53) rfl ?_
        refine r_ifne (t := 40) c249_35 rfl (fun h54 => ?_) (fun h54 => ?_)
        · rw [if_pos (pm_bt h54)] at h
          refine al0 c249_40 ?_
          refine il1 c249_41 ?_
          obtain ⟨⟨ov55, I56, J57⟩, e58, h⟩ := pm_bd_sp h
          dsimp only at h
          refine cz2 q249_42 (μ1 := (I56, J57, P, pm_T0, e)) (d223 hw e58) rfl ?_
          refine al0 c249_45 ?_
          refine r_gi g249_46 (by first | rfl | assumption) rfl ?_
          refine r_bi c249_49 kB16 ?_
          refine r_icne (t := 63) c249_51 rfl (fun h59 => ?_) (fun h59 => ?_)
          · rw [if_neg h59] at h
            refine al0 c249_63 ?_
            refine r_ic c249_64 kI0 ?_
            refine w_pi p249_65 (by first | rfl | assumption) rfl ?_
            rw [pm_lt_eq] at h
            generalize pm_w I56 127 31 0 = I60 at h ⊢
            exact (d249_L hw pm_FU).1 h
          · rw [if_pos h59] at h
            refine al0 c249_54 ?_
            refine r_ic c249_55 kI0 ?_
            obtain ⟨⟨ov61, I62, J63⟩, e64, h⟩ := pm_bd_sp h
            dsimp only at h
            refine cv2 q249_56 (v := .int ov61) (μ1 := (I62, J63, P, pm_T0, e)) (d239 hw e64) rfl ?_
            refine r_pp c249_59 ?_
            refine r_bi c249_60 kBm20 ?_
            cases h
            exact r_ri c249_62 rt249 rfl rfl
        · rw [if_neg (pm_bf h54)] at h
          refine r_ic c249_38 kI0 ?_
          cases h
          exact r_ri c249_39 rt249 rfl rfl
def f273_L  : Nat → Nat → Int32 → Int32 → Int32 → Int32 → (Nat → Nat → Int32) → (Nat → Nat → Int64) → Option (Int32 × (Nat → Nat → Int32) × (Nat → Nat → Int64))
  | 0, _, _, _, _, _, _, _ => none
  | fu + 1, 0, y2, _, _, _, I, J => (if (v224  I) = true then (f225  I J).bind (fun (ov12, I13, J14) => (if ov12 = true then (f235 0 499 I13 J14).bind (fun (ov27, I28, J29) => f273_L fu 1 y2 (I13 127 4) ov27 0 I28 J29) else (f239 y2 I13 J14).bind (fun (ov17, I18, J19) => (if (I18 127 5) = (-1) then pm_lt (pm_w I18 127 45 y2) (fun I22 => (f218 146 16 147 16 (2 * y2) I22 J19).bind (fun (ov23, I24, J25) => some (ov17, I24, J25))) else some (ov17, I18, J19))))) else (f239 y2 I J).bind (fun (ov2, I3, J4) => (if (I3 127 5) = (-1) then pm_lt (pm_w I3 127 45 y2) (fun I7 => (f218 146 16 147 16 (2 * y2) I7 J4).bind (fun (ov8, I9, J10) => some (ov2, I9, J10))) else some (ov2, I3, J4))))
  | fu + 1, _ + 1, y2, y3, y4, y5, I, J => (if y5.toInt < y2.toInt then (if (v224  I) = true then pm_gd (pm_in (2 * y5) 16) ((if (I 146 (2 * y5).toNatClampNeg) = y4 then (f232 2 y3 I J).bind (fun (ov185, I186, J187) => f273_L fu 1 y2 y3 y4 (y5 + 1) I186 J187) else f273_L fu 1 y2 y3 y4 (y5 + 1) I J)) else (if (v224  I) = true then (if y2 = 8 then (f232 3 y3 I J).bind (fun (ov156, I157, J158) => (f235 0 999 I157 J158).bind (fun (ov160, I161, J162) => (f238 59 I161 J162).bind (fun (ov164, I165, J166) => (if (v224  I165) = true then pm_gd (pm_in (2 * y2) 16) (pm_lt (pm_w I165 146 (2 * y2).toNatClampNeg y4) (fun I170 => pm_gd (pm_in ((2 * y2) + 1) 16) (pm_lt (pm_w I170 146 ((2 * y2) + 1).toNatClampNeg ov160) (fun I172 => f273_L fu 0 (y2 + 1) 0 0 0 I172 J166)))) else (f239 y2 I165 J166).bind (fun (ov173, I174, J175) => (if (I174 127 5) = (-1) then pm_lt (pm_w I174 127 45 y2) (fun I178 => (f218 146 16 147 16 (2 * y2) I178 J175).bind (fun (ov179, I180, J181) => some (ov173, I180, J181))) else some (ov173, I174, J175))))))) else (f235 0 999 I J).bind (fun (ov133, I134, J135) => (f238 59 I134 J135).bind (fun (ov137, I138, J139) => (if (v224  I138) = true then pm_gd (pm_in (2 * y2) 16) (pm_lt (pm_w I138 146 (2 * y2).toNatClampNeg y4) (fun I143 => pm_gd (pm_in ((2 * y2) + 1) 16) (pm_lt (pm_w I143 146 ((2 * y2) + 1).toNatClampNeg ov133) (fun I145 => f273_L fu 0 (y2 + 1) 0 0 0 I145 J139)))) else (f239 y2 I138 J139).bind (fun (ov146, I147, J148) => (if (I147 127 5) = (-1) then pm_lt (pm_w I147 127 45 y2) (fun I151 => (f218 146 16 147 16 (2 * y2) I151 J148).bind (fun (ov152, I153, J154) => some (ov146, I153, J154))) else some (ov146, I147, J148))))))) else (f235 0 999 I J).bind (fun (ov109, I110, J111) => (f238 59 I110 J111).bind (fun (ov113, I114, J115) => (if (v224  I114) = true then pm_gd (pm_in (2 * y2) 16) (pm_lt (pm_w I114 146 (2 * y2).toNatClampNeg y4) (fun I119 => pm_gd (pm_in ((2 * y2) + 1) 16) (pm_lt (pm_w I119 146 ((2 * y2) + 1).toNatClampNeg ov109) (fun I121 => f273_L fu 0 (y2 + 1) 0 0 0 I121 J115)))) else (f239 y2 I114 J115).bind (fun (ov122, I123, J124) => (if (I123 127 5) = (-1) then pm_lt (pm_w I123 127 45 y2) (fun I127 => (f218 146 16 147 16 (2 * y2) I127 J124).bind (fun (ov128, I129, J130) => some (ov122, I129, J130))) else some (ov122, I123, J124)))))))) else (if (v224  I) = true then (if y2 = 8 then (f232 3 y3 I J).bind (fun (ov80, I81, J82) => (f235 0 999 I81 J82).bind (fun (ov84, I85, J86) => (f238 59 I85 J86).bind (fun (ov88, I89, J90) => (if (v224  I89) = true then pm_gd (pm_in (2 * y2) 16) (pm_lt (pm_w I89 146 (2 * y2).toNatClampNeg y4) (fun I94 => pm_gd (pm_in ((2 * y2) + 1) 16) (pm_lt (pm_w I94 146 ((2 * y2) + 1).toNatClampNeg ov84) (fun I96 => f273_L fu 0 (y2 + 1) 0 0 0 I96 J90)))) else (f239 y2 I89 J90).bind (fun (ov97, I98, J99) => (if (I98 127 5) = (-1) then pm_lt (pm_w I98 127 45 y2) (fun I102 => (f218 146 16 147 16 (2 * y2) I102 J99).bind (fun (ov103, I104, J105) => some (ov97, I104, J105))) else some (ov97, I98, J99))))))) else (f235 0 999 I J).bind (fun (ov57, I58, J59) => (f238 59 I58 J59).bind (fun (ov61, I62, J63) => (if (v224  I62) = true then pm_gd (pm_in (2 * y2) 16) (pm_lt (pm_w I62 146 (2 * y2).toNatClampNeg y4) (fun I67 => pm_gd (pm_in ((2 * y2) + 1) 16) (pm_lt (pm_w I67 146 ((2 * y2) + 1).toNatClampNeg ov57) (fun I69 => f273_L fu 0 (y2 + 1) 0 0 0 I69 J63)))) else (f239 y2 I62 J63).bind (fun (ov70, I71, J72) => (if (I71 127 5) = (-1) then pm_lt (pm_w I71 127 45 y2) (fun I75 => (f218 146 16 147 16 (2 * y2) I75 J72).bind (fun (ov76, I77, J78) => some (ov70, I77, J78))) else some (ov70, I71, J72))))))) else (f235 0 999 I J).bind (fun (ov33, I34, J35) => (f238 59 I34 J35).bind (fun (ov37, I38, J39) => (if (v224  I38) = true then pm_gd (pm_in (2 * y2) 16) (pm_lt (pm_w I38 146 (2 * y2).toNatClampNeg y4) (fun I43 => pm_gd (pm_in ((2 * y2) + 1) 16) (pm_lt (pm_w I43 146 ((2 * y2) + 1).toNatClampNeg ov33) (fun I45 => f273_L fu 0 (y2 + 1) 0 0 0 I45 J39)))) else (f239 y2 I38 J39).bind (fun (ov46, I47, J48) => (if (I47 127 5) = (-1) then pm_lt (pm_w I47 127 45 y2) (fun I51 => (f218 146 16 147 16 (2 * y2) I51 J48).bind (fun (ov52, I53, J54) => some (ov46, I53, J54))) else some (ov46, I47, J48))))))))
def f273 (x1 : Int32) (I : Nat → Nat → Int32) (J : Nat → Nat → Int64) : Option (Int32 × (Nat → Nat → Int32) × (Nat → Nat → Int64)) := pm_lt (pm_w I 127 0 0) (fun I1 => (if x1.toInt < 0 then (f222 0 1 1 I1 J).bind (fun (ov3, I4, J5) => (if ov3 = true then (f223 x1 I4 J5).bind (fun (ov8, I9, J10) => f273_L pm_FU 0 0 0 0 0 I9 J10) else some (0, I4, J5))) else (if (I1 127 2).toInt < x1.toInt then (f222 0 1 1 I1 J).bind (fun (ov13, I14, J15) => (if ov13 = true then (f223 x1 I14 J15).bind (fun (ov18, I19, J20) => f273_L pm_FU 0 0 0 0 0 I19 J20) else some (0, I14, J15))) else (if (100 : Int32).toInt < x1.toInt then (f222 0 1 1 I1 J).bind (fun (ov23, I24, J25) => (if ov23 = true then (f223 x1 I24 J25).bind (fun (ov28, I29, J30) => f273_L pm_FU 0 0 0 0 0 I29 J30) else some (0, I24, J25))) else (f222 1 1 1 I1 J).bind (fun (ov32, I33, J34) => (if ov32 = true then (f223 x1 I33 J34).bind (fun (ov37, I38, J39) => f273_L pm_FU 0 0 0 0 0 I38 J39) else some (0, I33, J34)))))))
theorem d273_L {X : (Nat → Int32) × Nat} {d : Nat} {P : Nat → Nat → Value} {e r k r2 k2 : Nat}  (hw : pm_W P r k r2 k2)  : ∀ fu : Nat, (∀ {y2 : Int32} {I : Nat → Nat → Int32} {J : Nat → Nat → Int64} {q : Int32 × (Nat → Nat → Int32) × (Nat → Nat → Int64)} {z1 : Value} {z3 : Value} {z4 : Value} {z5 : Value} (h : f273_L fu 0 y2 0 0 0 I J = some q), pm_Fx X (d + 2) 273 46 [.ref 127, z1, .int y2, z3, z4, z5] [] (I, J, P, pm_T0, e) (.inl (some (.int q.1))) (q.2.1, q.2.2, P, pm_T0, e)) ∧ (∀ {y2 y3 y4 y5 : Int32} {I : Nat → Nat → Int32} {J : Nat → Nat → Int64} {q : Int32 × (Nat → Nat → Int32) × (Nat → Nat → Int64)} {z1 : Value} (h : f273_L fu 1 y2 y3 y4 y5 I J = some q), pm_Fx X (d + 2) 273 78 [.ref 127, z1, .int y2, .int y3, .int y4, .int y5] [] (I, J, P, pm_T0, e) (.inl (some (.int q.1))) (q.2.1, q.2.2, P, pm_T0, e)) := by
  obtain ⟨hp, hw1, hw2, hw3, hw4, hw5, hw6, hw7, hw8, hw9, hw10, hw11⟩ := id hw
  have hwa := hw5.1
  have hwb := hw6.1
  have hwc := hw7.1
  have hwd := hw8.1
  intro fu
  induction fu with
  | zero => exact ⟨(by intro y2 I J q z1 z3 z4 z5 h; cases h), (by intro y2 y3 y4 y5 I J q z1 h; cases h)⟩
  | succ fu ih =>
    refine ⟨?_, ?_⟩
    · intro y2 I J q z1 z3 z4 z5 h
      rw [f273_L] at h
      refine al0 c273_46 ?_
      refine cv1 q273_47 (d224 hw rfl) rfl ?_
      refine r_ifeq (t := 190) c273_50 rfl (fun h1 => ?_) (fun h1 => ?_)
      · rw [if_neg (pm_bf h1)] at h
        refine al0 c273_190 ?_
        refine il2 c273_191 ?_
        obtain ⟨⟨ov2, I3, J4⟩, e5, h⟩ := pm_bd_sp h
        dsimp only at h
        refine cv2 q273_192 (v := .int ov2) (μ1 := (I3, J4, P, pm_T0, e)) (d239 hw e5) rfl ?_
        refine is3 c273_195 rfl ?_
        refine al0 c273_196 ?_
        refine r_gi g273_197 (by first | rfl | assumption) rfl ?_
        refine r_ic c273_200 kIm1 ?_
        refine r_iceq (t := 206) c273_201 rfl (fun h6 => ?_) (fun h6 => ?_)
        · rw [if_pos h6] at h
          refine al0 c273_206 ?_
          refine il2 c273_207 ?_
          refine w_pi p273_208 (by first | rfl | assumption) rfl ?_
          rw [pm_lt_eq] at h
          generalize pm_w I3 127 45 y2 = I7 at h ⊢
          refine al0 c273_211 ?_
          refine al0 c273_212 ?_
          refine r_gr g273_213 rfl rfl (hp _ _ _ rfl) ?_
          refine al0 c273_216 ?_
          refine r_gr g273_217 rfl rfl (hp _ _ _ rfl) ?_
          refine r_ic c273_220 kI2 ?_
          refine il2 c273_221 ?_
          refine r_imul c273_222 ?_
          obtain ⟨⟨ov8, I9, J10⟩, e11, h⟩ := pm_bd_sp h
          dsimp only at h
          refine cz4 q273_223 (μ1 := (I9, J10, P, pm_T0, e)) (d218 hw (by first | rfl | assumption | decide) (by first | rfl | assumption | decide) (by first | rfl | assumption | decide) (by first | rfl | assumption | decide) e11) rfl ?_
          refine il3 c273_226 ?_
          cases h
          exact r_ri c273_227 rt273 rfl rfl
        · rw [if_neg h6] at h
          refine il3 c273_204 ?_
          cases h
          exact r_ri c273_205 rt273 rfl rfl
      · rw [if_pos (pm_bt h1)] at h
        refine al0 c273_53 ?_
        obtain ⟨⟨ov12, I13, J14⟩, e15, h⟩ := pm_bd_sp h
        dsimp only at h
        refine cv1 q273_54 (v := .int (pm_bi ov12)) (μ1 := (I13, J14, P, pm_T0, e)) (d225 hw e15) rfl ?_
        refine r_ifeq (t := 190) c273_57 rfl (fun h16 => ?_) (fun h16 => ?_)
        · rw [if_neg (pm_bf h16)] at h
          refine al0 c273_190 ?_
          refine il2 c273_191 ?_
          obtain ⟨⟨ov17, I18, J19⟩, e20, h⟩ := pm_bd_sp h
          dsimp only at h
          refine cv2 q273_192 (v := .int ov17) (μ1 := (I18, J19, P, pm_T0, e)) (d239 hw e20) rfl ?_
          refine is3 c273_195 rfl ?_
          refine al0 c273_196 ?_
          refine r_gi g273_197 (by first | rfl | assumption) rfl ?_
          refine r_ic c273_200 kIm1 ?_
          refine r_iceq (t := 206) c273_201 rfl (fun h21 => ?_) (fun h21 => ?_)
          · rw [if_pos h21] at h
            refine al0 c273_206 ?_
            refine il2 c273_207 ?_
            refine w_pi p273_208 (by first | rfl | assumption) rfl ?_
            rw [pm_lt_eq] at h
            generalize pm_w I18 127 45 y2 = I22 at h ⊢
            refine al0 c273_211 ?_
            refine al0 c273_212 ?_
            refine r_gr g273_213 rfl rfl (hp _ _ _ rfl) ?_
            refine al0 c273_216 ?_
            refine r_gr g273_217 rfl rfl (hp _ _ _ rfl) ?_
            refine r_ic c273_220 kI2 ?_
            refine il2 c273_221 ?_
            refine r_imul c273_222 ?_
            obtain ⟨⟨ov23, I24, J25⟩, e26, h⟩ := pm_bd_sp h
            dsimp only at h
            refine cz4 q273_223 (μ1 := (I24, J25, P, pm_T0, e)) (d218 hw (by first | rfl | assumption | decide) (by first | rfl | assumption | decide) (by first | rfl | assumption | decide) (by first | rfl | assumption | decide) e26) rfl ?_
            refine il3 c273_226 ?_
            cases h
            exact r_ri c273_227 rt273 rfl rfl
          · rw [if_neg h21] at h
            refine il3 c273_204 ?_
            cases h
            exact r_ri c273_205 rt273 rfl rfl
        · rw [if_pos (pm_bt h16)] at h
          refine al0 c273_60 ?_
          refine r_gi g273_61 (by first | rfl | assumption) rfl ?_
          refine is3 c273_64 rfl ?_
          refine al0 c273_65 ?_
          refine r_ic c273_66 kI0 ?_
          refine r_si c273_67 kS499 ?_
          obtain ⟨⟨ov27, I28, J29⟩, e30, h⟩ := pm_bd_sp h
          dsimp only at h
          refine cv3 q273_70 (v := .int ov27) (μ1 := (I28, J29, P, pm_T0, e)) (d235 hw e30) rfl ?_
          refine is4 c273_73 rfl ?_
          refine r_ic c273_75 kI0 ?_
          refine is5 c273_76 rfl ?_
          exact ih.2 h
    · intro y2 y3 y4 y5 I J q z1 h
      rw [f273_L] at h
      refine il5 c273_78 ?_
      refine il2 c273_80 ?_
      refine r_icge (t := 117) c273_81 rfl (fun h31 => ?_) (fun h31 => ?_)
      · rw [if_neg (Int.not_lt.mpr h31)] at h
        refine al0 c273_117 ?_
        refine cv1 q273_118 (d224 hw rfl) rfl ?_
        refine r_ifeq (t := 136) c273_121 rfl (fun h32 => ?_) (fun h32 => ?_)
        · rw [if_neg (pm_bf h32)] at h
          refine al0 c273_136 ?_
          refine r_ic c273_137 kI0 ?_
          refine r_si c273_138 kS999 ?_
          obtain ⟨⟨ov33, I34, J35⟩, e36, h⟩ := pm_bd_sp h
          dsimp only at h
          refine cv3 q273_141 (v := .int ov33) (μ1 := (I34, J35, P, pm_T0, e)) (d235 hw e36) rfl ?_
          refine is5 c273_144 rfl ?_
          refine al0 c273_146 ?_
          refine r_bi c273_147 kB59 ?_
          obtain ⟨⟨ov37, I38, J39⟩, e40, h⟩ := pm_bd_sp h
          dsimp only at h
          refine cz2 q273_149 (μ1 := (I38, J39, P, pm_T0, e)) (d238 hw e40) rfl ?_
          refine al0 c273_152 ?_
          refine cv1 q273_153 (d224 hw rfl) rfl ?_
          refine r_ifne (t := 162) c273_156 rfl (fun h41 => ?_) (fun h41 => ?_)
          · rw [if_pos (pm_bt h41)] at h
            refine al0 c273_162 ?_
            refine r_gr g273_163 rfl rfl (hp _ _ _ rfl) ?_
            refine r_ic c273_166 kI2 ?_
            refine il2 c273_167 ?_
            refine r_imul c273_168 ?_
            refine il4 c273_169 ?_
            obtain ⟨gd42, h⟩ := pm_gd_sp h
            refine w_ist c273_171 (by first | rfl | assumption) gd42 ?_
            rw [pm_lt_eq] at h
            generalize pm_w I38 146 (2 * y2).toNatClampNeg y4 = I43 at h ⊢
            refine al0 c273_172 ?_
            refine r_gr g273_173 rfl rfl (hp _ _ _ rfl) ?_
            refine r_ic c273_176 kI2 ?_
            refine il2 c273_177 ?_
            refine r_imul c273_178 ?_
            refine r_ic c273_179 kI1 ?_
            refine r_iadd c273_180 ?_
            refine il5 c273_181 ?_
            obtain ⟨gd44, h⟩ := pm_gd_sp h
            refine w_ist c273_183 (by first | rfl | assumption) gd44 ?_
            rw [pm_lt_eq] at h
            generalize pm_w I43 146 ((2 * y2) + 1).toNatClampNeg ov33 = I45 at h ⊢
            refine ii2c c273_184 kI1 ?_
            refine r_go (t := 46) c273_187 rfl ?_
            exact ih.1 h
          · rw [if_neg (pm_bf h41)] at h
            refine r_go (t := 190) c273_159 rfl ?_
            refine al0 c273_190 ?_
            refine il2 c273_191 ?_
            obtain ⟨⟨ov46, I47, J48⟩, e49, h⟩ := pm_bd_sp h
            dsimp only at h
            refine cv2 q273_192 (v := .int ov46) (μ1 := (I47, J48, P, pm_T0, e)) (d239 hw e49) rfl ?_
            refine is3 c273_195 rfl ?_
            refine al0 c273_196 ?_
            refine r_gi g273_197 (by first | rfl | assumption) rfl ?_
            refine r_ic c273_200 kIm1 ?_
            refine r_iceq (t := 206) c273_201 rfl (fun h50 => ?_) (fun h50 => ?_)
            · rw [if_pos h50] at h
              refine al0 c273_206 ?_
              refine il2 c273_207 ?_
              refine w_pi p273_208 (by first | rfl | assumption) rfl ?_
              rw [pm_lt_eq] at h
              generalize pm_w I47 127 45 y2 = I51 at h ⊢
              refine al0 c273_211 ?_
              refine al0 c273_212 ?_
              refine r_gr g273_213 rfl rfl (hp _ _ _ rfl) ?_
              refine al0 c273_216 ?_
              refine r_gr g273_217 rfl rfl (hp _ _ _ rfl) ?_
              refine r_ic c273_220 kI2 ?_
              refine il2 c273_221 ?_
              refine r_imul c273_222 ?_
              obtain ⟨⟨ov52, I53, J54⟩, e55, h⟩ := pm_bd_sp h
              dsimp only at h
              refine cz4 q273_223 (μ1 := (I53, J54, P, pm_T0, e)) (d218 hw (by first | rfl | assumption | decide) (by first | rfl | assumption | decide) (by first | rfl | assumption | decide) (by first | rfl | assumption | decide) e55) rfl ?_
              refine il3 c273_226 ?_
              cases h
              exact r_ri c273_227 rt273 rfl rfl
            · rw [if_neg h50] at h
              refine il3 c273_204 ?_
              cases h
              exact r_ri c273_205 rt273 rfl rfl
        · rw [if_pos (pm_bt h32)] at h
          refine il2 c273_124 ?_
          refine r_bi c273_125 kB8 ?_
          refine r_icne (t := 136) c273_127 rfl (fun h56 => ?_) (fun h56 => ?_)
          · rw [if_neg h56] at h
            refine al0 c273_136 ?_
            refine r_ic c273_137 kI0 ?_
            refine r_si c273_138 kS999 ?_
            obtain ⟨⟨ov57, I58, J59⟩, e60, h⟩ := pm_bd_sp h
            dsimp only at h
            refine cv3 q273_141 (v := .int ov57) (μ1 := (I58, J59, P, pm_T0, e)) (d235 hw e60) rfl ?_
            refine is5 c273_144 rfl ?_
            refine al0 c273_146 ?_
            refine r_bi c273_147 kB59 ?_
            obtain ⟨⟨ov61, I62, J63⟩, e64, h⟩ := pm_bd_sp h
            dsimp only at h
            refine cz2 q273_149 (μ1 := (I62, J63, P, pm_T0, e)) (d238 hw e64) rfl ?_
            refine al0 c273_152 ?_
            refine cv1 q273_153 (d224 hw rfl) rfl ?_
            refine r_ifne (t := 162) c273_156 rfl (fun h65 => ?_) (fun h65 => ?_)
            · rw [if_pos (pm_bt h65)] at h
              refine al0 c273_162 ?_
              refine r_gr g273_163 rfl rfl (hp _ _ _ rfl) ?_
              refine r_ic c273_166 kI2 ?_
              refine il2 c273_167 ?_
              refine r_imul c273_168 ?_
              refine il4 c273_169 ?_
              obtain ⟨gd66, h⟩ := pm_gd_sp h
              refine w_ist c273_171 (by first | rfl | assumption) gd66 ?_
              rw [pm_lt_eq] at h
              generalize pm_w I62 146 (2 * y2).toNatClampNeg y4 = I67 at h ⊢
              refine al0 c273_172 ?_
              refine r_gr g273_173 rfl rfl (hp _ _ _ rfl) ?_
              refine r_ic c273_176 kI2 ?_
              refine il2 c273_177 ?_
              refine r_imul c273_178 ?_
              refine r_ic c273_179 kI1 ?_
              refine r_iadd c273_180 ?_
              refine il5 c273_181 ?_
              obtain ⟨gd68, h⟩ := pm_gd_sp h
              refine w_ist c273_183 (by first | rfl | assumption) gd68 ?_
              rw [pm_lt_eq] at h
              generalize pm_w I67 146 ((2 * y2) + 1).toNatClampNeg ov57 = I69 at h ⊢
              refine ii2c c273_184 kI1 ?_
              refine r_go (t := 46) c273_187 rfl ?_
              exact ih.1 h
            · rw [if_neg (pm_bf h65)] at h
              refine r_go (t := 190) c273_159 rfl ?_
              refine al0 c273_190 ?_
              refine il2 c273_191 ?_
              obtain ⟨⟨ov70, I71, J72⟩, e73, h⟩ := pm_bd_sp h
              dsimp only at h
              refine cv2 q273_192 (v := .int ov70) (μ1 := (I71, J72, P, pm_T0, e)) (d239 hw e73) rfl ?_
              refine is3 c273_195 rfl ?_
              refine al0 c273_196 ?_
              refine r_gi g273_197 (by first | rfl | assumption) rfl ?_
              refine r_ic c273_200 kIm1 ?_
              refine r_iceq (t := 206) c273_201 rfl (fun h74 => ?_) (fun h74 => ?_)
              · rw [if_pos h74] at h
                refine al0 c273_206 ?_
                refine il2 c273_207 ?_
                refine w_pi p273_208 (by first | rfl | assumption) rfl ?_
                rw [pm_lt_eq] at h
                generalize pm_w I71 127 45 y2 = I75 at h ⊢
                refine al0 c273_211 ?_
                refine al0 c273_212 ?_
                refine r_gr g273_213 rfl rfl (hp _ _ _ rfl) ?_
                refine al0 c273_216 ?_
                refine r_gr g273_217 rfl rfl (hp _ _ _ rfl) ?_
                refine r_ic c273_220 kI2 ?_
                refine il2 c273_221 ?_
                refine r_imul c273_222 ?_
                obtain ⟨⟨ov76, I77, J78⟩, e79, h⟩ := pm_bd_sp h
                dsimp only at h
                refine cz4 q273_223 (μ1 := (I77, J78, P, pm_T0, e)) (d218 hw (by first | rfl | assumption | decide) (by first | rfl | assumption | decide) (by first | rfl | assumption | decide) (by first | rfl | assumption | decide) e79) rfl ?_
                refine il3 c273_226 ?_
                cases h
                exact r_ri c273_227 rt273 rfl rfl
              · rw [if_neg h74] at h
                refine il3 c273_204 ?_
                cases h
                exact r_ri c273_205 rt273 rfl rfl
          · rw [if_pos h56] at h
            refine al0 c273_130 ?_
            refine r_ic c273_131 kI3 ?_
            refine il3 c273_132 ?_
            obtain ⟨⟨ov80, I81, J82⟩, e83, h⟩ := pm_bd_sp h
            dsimp only at h
            refine cz3 q273_133 (μ1 := (I81, J82, P, pm_T0, e)) (d232 hw e83) rfl ?_
            refine al0 c273_136 ?_
            refine r_ic c273_137 kI0 ?_
            refine r_si c273_138 kS999 ?_
            obtain ⟨⟨ov84, I85, J86⟩, e87, h⟩ := pm_bd_sp h
            dsimp only at h
            refine cv3 q273_141 (v := .int ov84) (μ1 := (I85, J86, P, pm_T0, e)) (d235 hw e87) rfl ?_
            refine is5 c273_144 rfl ?_
            refine al0 c273_146 ?_
            refine r_bi c273_147 kB59 ?_
            obtain ⟨⟨ov88, I89, J90⟩, e91, h⟩ := pm_bd_sp h
            dsimp only at h
            refine cz2 q273_149 (μ1 := (I89, J90, P, pm_T0, e)) (d238 hw e91) rfl ?_
            refine al0 c273_152 ?_
            refine cv1 q273_153 (d224 hw rfl) rfl ?_
            refine r_ifne (t := 162) c273_156 rfl (fun h92 => ?_) (fun h92 => ?_)
            · rw [if_pos (pm_bt h92)] at h
              refine al0 c273_162 ?_
              refine r_gr g273_163 rfl rfl (hp _ _ _ rfl) ?_
              refine r_ic c273_166 kI2 ?_
              refine il2 c273_167 ?_
              refine r_imul c273_168 ?_
              refine il4 c273_169 ?_
              obtain ⟨gd93, h⟩ := pm_gd_sp h
              refine w_ist c273_171 (by first | rfl | assumption) gd93 ?_
              rw [pm_lt_eq] at h
              generalize pm_w I89 146 (2 * y2).toNatClampNeg y4 = I94 at h ⊢
              refine al0 c273_172 ?_
              refine r_gr g273_173 rfl rfl (hp _ _ _ rfl) ?_
              refine r_ic c273_176 kI2 ?_
              refine il2 c273_177 ?_
              refine r_imul c273_178 ?_
              refine r_ic c273_179 kI1 ?_
              refine r_iadd c273_180 ?_
              refine il5 c273_181 ?_
              obtain ⟨gd95, h⟩ := pm_gd_sp h
              refine w_ist c273_183 (by first | rfl | assumption) gd95 ?_
              rw [pm_lt_eq] at h
              generalize pm_w I94 146 ((2 * y2) + 1).toNatClampNeg ov84 = I96 at h ⊢
              refine ii2c c273_184 kI1 ?_
              refine r_go (t := 46) c273_187 rfl ?_
              exact ih.1 h
            · rw [if_neg (pm_bf h92)] at h
              refine r_go (t := 190) c273_159 rfl ?_
              refine al0 c273_190 ?_
              refine il2 c273_191 ?_
              obtain ⟨⟨ov97, I98, J99⟩, e100, h⟩ := pm_bd_sp h
              dsimp only at h
              refine cv2 q273_192 (v := .int ov97) (μ1 := (I98, J99, P, pm_T0, e)) (d239 hw e100) rfl ?_
              refine is3 c273_195 rfl ?_
              refine al0 c273_196 ?_
              refine r_gi g273_197 (by first | rfl | assumption) rfl ?_
              refine r_ic c273_200 kIm1 ?_
              refine r_iceq (t := 206) c273_201 rfl (fun h101 => ?_) (fun h101 => ?_)
              · rw [if_pos h101] at h
                refine al0 c273_206 ?_
                refine il2 c273_207 ?_
                refine w_pi p273_208 (by first | rfl | assumption) rfl ?_
                rw [pm_lt_eq] at h
                generalize pm_w I98 127 45 y2 = I102 at h ⊢
                refine al0 c273_211 ?_
                refine al0 c273_212 ?_
                refine r_gr g273_213 rfl rfl (hp _ _ _ rfl) ?_
                refine al0 c273_216 ?_
                refine r_gr g273_217 rfl rfl (hp _ _ _ rfl) ?_
                refine r_ic c273_220 kI2 ?_
                refine il2 c273_221 ?_
                refine r_imul c273_222 ?_
                obtain ⟨⟨ov103, I104, J105⟩, e106, h⟩ := pm_bd_sp h
                dsimp only at h
                refine cz4 q273_223 (μ1 := (I104, J105, P, pm_T0, e)) (d218 hw (by first | rfl | assumption | decide) (by first | rfl | assumption | decide) (by first | rfl | assumption | decide) (by first | rfl | assumption | decide) e106) rfl ?_
                refine il3 c273_226 ?_
                cases h
                exact r_ri c273_227 rt273 rfl rfl
              · rw [if_neg h101] at h
                refine il3 c273_204 ?_
                cases h
                exact r_ri c273_205 rt273 rfl rfl
      · rw [if_pos h31] at h
        refine al0 c273_84 ?_
        refine cv1 q273_85 (d224 hw rfl) rfl ?_
        refine r_ifeq (t := 117) c273_88 rfl (fun h107 => ?_) (fun h107 => ?_)
        · rw [if_neg (pm_bf h107)] at h
          refine al0 c273_117 ?_
          refine cv1 q273_118 (d224 hw rfl) rfl ?_
          refine r_ifeq (t := 136) c273_121 rfl (fun h108 => ?_) (fun h108 => ?_)
          · rw [if_neg (pm_bf h108)] at h
            refine al0 c273_136 ?_
            refine r_ic c273_137 kI0 ?_
            refine r_si c273_138 kS999 ?_
            obtain ⟨⟨ov109, I110, J111⟩, e112, h⟩ := pm_bd_sp h
            dsimp only at h
            refine cv3 q273_141 (v := .int ov109) (μ1 := (I110, J111, P, pm_T0, e)) (d235 hw e112) rfl ?_
            refine is5 c273_144 rfl ?_
            refine al0 c273_146 ?_
            refine r_bi c273_147 kB59 ?_
            obtain ⟨⟨ov113, I114, J115⟩, e116, h⟩ := pm_bd_sp h
            dsimp only at h
            refine cz2 q273_149 (μ1 := (I114, J115, P, pm_T0, e)) (d238 hw e116) rfl ?_
            refine al0 c273_152 ?_
            refine cv1 q273_153 (d224 hw rfl) rfl ?_
            refine r_ifne (t := 162) c273_156 rfl (fun h117 => ?_) (fun h117 => ?_)
            · rw [if_pos (pm_bt h117)] at h
              refine al0 c273_162 ?_
              refine r_gr g273_163 rfl rfl (hp _ _ _ rfl) ?_
              refine r_ic c273_166 kI2 ?_
              refine il2 c273_167 ?_
              refine r_imul c273_168 ?_
              refine il4 c273_169 ?_
              obtain ⟨gd118, h⟩ := pm_gd_sp h
              refine w_ist c273_171 (by first | rfl | assumption) gd118 ?_
              rw [pm_lt_eq] at h
              generalize pm_w I114 146 (2 * y2).toNatClampNeg y4 = I119 at h ⊢
              refine al0 c273_172 ?_
              refine r_gr g273_173 rfl rfl (hp _ _ _ rfl) ?_
              refine r_ic c273_176 kI2 ?_
              refine il2 c273_177 ?_
              refine r_imul c273_178 ?_
              refine r_ic c273_179 kI1 ?_
              refine r_iadd c273_180 ?_
              refine il5 c273_181 ?_
              obtain ⟨gd120, h⟩ := pm_gd_sp h
              refine w_ist c273_183 (by first | rfl | assumption) gd120 ?_
              rw [pm_lt_eq] at h
              generalize pm_w I119 146 ((2 * y2) + 1).toNatClampNeg ov109 = I121 at h ⊢
              refine ii2c c273_184 kI1 ?_
              refine r_go (t := 46) c273_187 rfl ?_
              exact ih.1 h
            · rw [if_neg (pm_bf h117)] at h
              refine r_go (t := 190) c273_159 rfl ?_
              refine al0 c273_190 ?_
              refine il2 c273_191 ?_
              obtain ⟨⟨ov122, I123, J124⟩, e125, h⟩ := pm_bd_sp h
              dsimp only at h
              refine cv2 q273_192 (v := .int ov122) (μ1 := (I123, J124, P, pm_T0, e)) (d239 hw e125) rfl ?_
              refine is3 c273_195 rfl ?_
              refine al0 c273_196 ?_
              refine r_gi g273_197 (by first | rfl | assumption) rfl ?_
              refine r_ic c273_200 kIm1 ?_
              refine r_iceq (t := 206) c273_201 rfl (fun h126 => ?_) (fun h126 => ?_)
              · rw [if_pos h126] at h
                refine al0 c273_206 ?_
                refine il2 c273_207 ?_
                refine w_pi p273_208 (by first | rfl | assumption) rfl ?_
                rw [pm_lt_eq] at h
                generalize pm_w I123 127 45 y2 = I127 at h ⊢
                refine al0 c273_211 ?_
                refine al0 c273_212 ?_
                refine r_gr g273_213 rfl rfl (hp _ _ _ rfl) ?_
                refine al0 c273_216 ?_
                refine r_gr g273_217 rfl rfl (hp _ _ _ rfl) ?_
                refine r_ic c273_220 kI2 ?_
                refine il2 c273_221 ?_
                refine r_imul c273_222 ?_
                obtain ⟨⟨ov128, I129, J130⟩, e131, h⟩ := pm_bd_sp h
                dsimp only at h
                refine cz4 q273_223 (μ1 := (I129, J130, P, pm_T0, e)) (d218 hw (by first | rfl | assumption | decide) (by first | rfl | assumption | decide) (by first | rfl | assumption | decide) (by first | rfl | assumption | decide) e131) rfl ?_
                refine il3 c273_226 ?_
                cases h
                exact r_ri c273_227 rt273 rfl rfl
              · rw [if_neg h126] at h
                refine il3 c273_204 ?_
                cases h
                exact r_ri c273_205 rt273 rfl rfl
          · rw [if_pos (pm_bt h108)] at h
            refine il2 c273_124 ?_
            refine r_bi c273_125 kB8 ?_
            refine r_icne (t := 136) c273_127 rfl (fun h132 => ?_) (fun h132 => ?_)
            · rw [if_neg h132] at h
              refine al0 c273_136 ?_
              refine r_ic c273_137 kI0 ?_
              refine r_si c273_138 kS999 ?_
              obtain ⟨⟨ov133, I134, J135⟩, e136, h⟩ := pm_bd_sp h
              dsimp only at h
              refine cv3 q273_141 (v := .int ov133) (μ1 := (I134, J135, P, pm_T0, e)) (d235 hw e136) rfl ?_
              refine is5 c273_144 rfl ?_
              refine al0 c273_146 ?_
              refine r_bi c273_147 kB59 ?_
              obtain ⟨⟨ov137, I138, J139⟩, e140, h⟩ := pm_bd_sp h
              dsimp only at h
              refine cz2 q273_149 (μ1 := (I138, J139, P, pm_T0, e)) (d238 hw e140) rfl ?_
              refine al0 c273_152 ?_
              refine cv1 q273_153 (d224 hw rfl) rfl ?_
              refine r_ifne (t := 162) c273_156 rfl (fun h141 => ?_) (fun h141 => ?_)
              · rw [if_pos (pm_bt h141)] at h
                refine al0 c273_162 ?_
                refine r_gr g273_163 rfl rfl (hp _ _ _ rfl) ?_
                refine r_ic c273_166 kI2 ?_
                refine il2 c273_167 ?_
                refine r_imul c273_168 ?_
                refine il4 c273_169 ?_
                obtain ⟨gd142, h⟩ := pm_gd_sp h
                refine w_ist c273_171 (by first | rfl | assumption) gd142 ?_
                rw [pm_lt_eq] at h
                generalize pm_w I138 146 (2 * y2).toNatClampNeg y4 = I143 at h ⊢
                refine al0 c273_172 ?_
                refine r_gr g273_173 rfl rfl (hp _ _ _ rfl) ?_
                refine r_ic c273_176 kI2 ?_
                refine il2 c273_177 ?_
                refine r_imul c273_178 ?_
                refine r_ic c273_179 kI1 ?_
                refine r_iadd c273_180 ?_
                refine il5 c273_181 ?_
                obtain ⟨gd144, h⟩ := pm_gd_sp h
                refine w_ist c273_183 (by first | rfl | assumption) gd144 ?_
                rw [pm_lt_eq] at h
                generalize pm_w I143 146 ((2 * y2) + 1).toNatClampNeg ov133 = I145 at h ⊢
                refine ii2c c273_184 kI1 ?_
                refine r_go (t := 46) c273_187 rfl ?_
                exact ih.1 h
              · rw [if_neg (pm_bf h141)] at h
                refine r_go (t := 190) c273_159 rfl ?_
                refine al0 c273_190 ?_
                refine il2 c273_191 ?_
                obtain ⟨⟨ov146, I147, J148⟩, e149, h⟩ := pm_bd_sp h
                dsimp only at h
                refine cv2 q273_192 (v := .int ov146) (μ1 := (I147, J148, P, pm_T0, e)) (d239 hw e149) rfl ?_
                refine is3 c273_195 rfl ?_
                refine al0 c273_196 ?_
                refine r_gi g273_197 (by first | rfl | assumption) rfl ?_
                refine r_ic c273_200 kIm1 ?_
                refine r_iceq (t := 206) c273_201 rfl (fun h150 => ?_) (fun h150 => ?_)
                · rw [if_pos h150] at h
                  refine al0 c273_206 ?_
                  refine il2 c273_207 ?_
                  refine w_pi p273_208 (by first | rfl | assumption) rfl ?_
                  rw [pm_lt_eq] at h
                  generalize pm_w I147 127 45 y2 = I151 at h ⊢
                  refine al0 c273_211 ?_
                  refine al0 c273_212 ?_
                  refine r_gr g273_213 rfl rfl (hp _ _ _ rfl) ?_
                  refine al0 c273_216 ?_
                  refine r_gr g273_217 rfl rfl (hp _ _ _ rfl) ?_
                  refine r_ic c273_220 kI2 ?_
                  refine il2 c273_221 ?_
                  refine r_imul c273_222 ?_
                  obtain ⟨⟨ov152, I153, J154⟩, e155, h⟩ := pm_bd_sp h
                  dsimp only at h
                  refine cz4 q273_223 (μ1 := (I153, J154, P, pm_T0, e)) (d218 hw (by first | rfl | assumption | decide) (by first | rfl | assumption | decide) (by first | rfl | assumption | decide) (by first | rfl | assumption | decide) e155) rfl ?_
                  refine il3 c273_226 ?_
                  cases h
                  exact r_ri c273_227 rt273 rfl rfl
                · rw [if_neg h150] at h
                  refine il3 c273_204 ?_
                  cases h
                  exact r_ri c273_205 rt273 rfl rfl
            · rw [if_pos h132] at h
              refine al0 c273_130 ?_
              refine r_ic c273_131 kI3 ?_
              refine il3 c273_132 ?_
              obtain ⟨⟨ov156, I157, J158⟩, e159, h⟩ := pm_bd_sp h
              dsimp only at h
              refine cz3 q273_133 (μ1 := (I157, J158, P, pm_T0, e)) (d232 hw e159) rfl ?_
              refine al0 c273_136 ?_
              refine r_ic c273_137 kI0 ?_
              refine r_si c273_138 kS999 ?_
              obtain ⟨⟨ov160, I161, J162⟩, e163, h⟩ := pm_bd_sp h
              dsimp only at h
              refine cv3 q273_141 (v := .int ov160) (μ1 := (I161, J162, P, pm_T0, e)) (d235 hw e163) rfl ?_
              refine is5 c273_144 rfl ?_
              refine al0 c273_146 ?_
              refine r_bi c273_147 kB59 ?_
              obtain ⟨⟨ov164, I165, J166⟩, e167, h⟩ := pm_bd_sp h
              dsimp only at h
              refine cz2 q273_149 (μ1 := (I165, J166, P, pm_T0, e)) (d238 hw e167) rfl ?_
              refine al0 c273_152 ?_
              refine cv1 q273_153 (d224 hw rfl) rfl ?_
              refine r_ifne (t := 162) c273_156 rfl (fun h168 => ?_) (fun h168 => ?_)
              · rw [if_pos (pm_bt h168)] at h
                refine al0 c273_162 ?_
                refine r_gr g273_163 rfl rfl (hp _ _ _ rfl) ?_
                refine r_ic c273_166 kI2 ?_
                refine il2 c273_167 ?_
                refine r_imul c273_168 ?_
                refine il4 c273_169 ?_
                obtain ⟨gd169, h⟩ := pm_gd_sp h
                refine w_ist c273_171 (by first | rfl | assumption) gd169 ?_
                rw [pm_lt_eq] at h
                generalize pm_w I165 146 (2 * y2).toNatClampNeg y4 = I170 at h ⊢
                refine al0 c273_172 ?_
                refine r_gr g273_173 rfl rfl (hp _ _ _ rfl) ?_
                refine r_ic c273_176 kI2 ?_
                refine il2 c273_177 ?_
                refine r_imul c273_178 ?_
                refine r_ic c273_179 kI1 ?_
                refine r_iadd c273_180 ?_
                refine il5 c273_181 ?_
                obtain ⟨gd171, h⟩ := pm_gd_sp h
                refine w_ist c273_183 (by first | rfl | assumption) gd171 ?_
                rw [pm_lt_eq] at h
                generalize pm_w I170 146 ((2 * y2) + 1).toNatClampNeg ov160 = I172 at h ⊢
                refine ii2c c273_184 kI1 ?_
                refine r_go (t := 46) c273_187 rfl ?_
                exact ih.1 h
              · rw [if_neg (pm_bf h168)] at h
                refine r_go (t := 190) c273_159 rfl ?_
                refine al0 c273_190 ?_
                refine il2 c273_191 ?_
                obtain ⟨⟨ov173, I174, J175⟩, e176, h⟩ := pm_bd_sp h
                dsimp only at h
                refine cv2 q273_192 (v := .int ov173) (μ1 := (I174, J175, P, pm_T0, e)) (d239 hw e176) rfl ?_
                refine is3 c273_195 rfl ?_
                refine al0 c273_196 ?_
                refine r_gi g273_197 (by first | rfl | assumption) rfl ?_
                refine r_ic c273_200 kIm1 ?_
                refine r_iceq (t := 206) c273_201 rfl (fun h177 => ?_) (fun h177 => ?_)
                · rw [if_pos h177] at h
                  refine al0 c273_206 ?_
                  refine il2 c273_207 ?_
                  refine w_pi p273_208 (by first | rfl | assumption) rfl ?_
                  rw [pm_lt_eq] at h
                  generalize pm_w I174 127 45 y2 = I178 at h ⊢
                  refine al0 c273_211 ?_
                  refine al0 c273_212 ?_
                  refine r_gr g273_213 rfl rfl (hp _ _ _ rfl) ?_
                  refine al0 c273_216 ?_
                  refine r_gr g273_217 rfl rfl (hp _ _ _ rfl) ?_
                  refine r_ic c273_220 kI2 ?_
                  refine il2 c273_221 ?_
                  refine r_imul c273_222 ?_
                  obtain ⟨⟨ov179, I180, J181⟩, e182, h⟩ := pm_bd_sp h
                  dsimp only at h
                  refine cz4 q273_223 (μ1 := (I180, J181, P, pm_T0, e)) (d218 hw (by first | rfl | assumption | decide) (by first | rfl | assumption | decide) (by first | rfl | assumption | decide) (by first | rfl | assumption | decide) e182) rfl ?_
                  refine il3 c273_226 ?_
                  cases h
                  exact r_ri c273_227 rt273 rfl rfl
                · rw [if_neg h177] at h
                  refine il3 c273_204 ?_
                  cases h
                  exact r_ri c273_205 rt273 rfl rfl
        · rw [if_pos (pm_bt h107)] at h
          refine al0 c273_91 ?_
          refine r_gr g273_92 rfl rfl (hp _ _ _ rfl) ?_
          refine r_ic c273_95 kI2 ?_
          refine il5 c273_96 ?_
          refine r_imul c273_98 ?_
          obtain ⟨gd183, h⟩ := pm_gd_sp h
          refine w_ia c273_99 (by first | rfl | assumption) gd183 ?_
          refine il4 c273_100 ?_
          refine r_icne (t := 111) c273_102 rfl (fun h184 => ?_) (fun h184 => ?_)
          · rw [if_neg h184] at h
            refine ii5 c273_111 kI1 rfl ?_
            refine r_go (t := 78) c273_114 rfl ?_
            exact ih.2 h
          · rw [if_pos h184] at h
            refine al0 c273_105 ?_
            refine r_ic c273_106 kI2 ?_
            refine il3 c273_107 ?_
            obtain ⟨⟨ov185, I186, J187⟩, e188, h⟩ := pm_bd_sp h
            dsimp only at h
            refine cz3 q273_108 (μ1 := (I186, J187, P, pm_T0, e)) (d232 hw e188) rfl ?_
            refine ii5 c273_111 kI1 rfl ?_
            refine r_go (t := 78) c273_114 rfl ?_
            exact ih.2 h
theorem d273 {X : (Nat → Int32) × Nat} {d : Nat} {I : Nat → Nat → Int32} {J : Nat → Nat → Int64} {P : Nat → Nat → Value} {e r k r2 k2 : Nat} {x1 : Int32} {q : Int32 × (Nat → Nat → Int32) × (Nat → Nat → Int64)} (hw : pm_W P r k r2 k2)  (h : f273 x1 I J = some q) : pm_Fn X (d + 2) 273 1 [.ref 127, .int x1] (I, J, P, pm_T0, e) (.inl (some (.int q.1))) (q.2.1, q.2.2, P, pm_T0, e) := by
  obtain ⟨hp, hw1, hw2, hw3, hw4, hw5, hw6, hw7, hw8, hw9, hw10, hw11⟩ := id hw
  have hwa := hw5.1
  have hwb := hw6.1
  have hwc := hw7.1
  have hwd := hw8.1
  unfold f273 at h
  refine fn_v rc273 (c := 12) (nf := 59) (by first | rfl | assumption) ml273 rfl rfl rfl rfl ?_
  refine al0 c273_0 ?_
  refine r_ic c273_1 kI0 ?_
  refine w_pi p273_2 (by first | rfl | assumption) rfl ?_
  rw [pm_lt_eq] at h
  generalize pm_w I 127 0 0 = I1 at h ⊢
  refine al0 c273_5 ?_
  refine il1 c273_6 ?_
  refine r_iflt (t := 28) c273_7 rfl (fun h2 => ?_) (fun h2 => ?_)
  · rw [if_pos h2] at h
    refine r_ic c273_28 kI0 ?_
    refine r_ic c273_29 kI1 ?_
    refine r_ic c273_30 kI1 ?_
    obtain ⟨⟨ov3, I4, J5⟩, e6, h⟩ := pm_bd_sp h
    dsimp only at h
    refine cv4 q273_31 (v := .int (pm_bi ov3)) (μ1 := (I4, J5, P, pm_T0, e)) (d222 hw e6) rfl ?_
    refine r_ifne (t := 39) c273_34 rfl (fun h7 => ?_) (fun h7 => ?_)
    · rw [if_pos (pm_bt h7)] at h
      refine al0 c273_39 ?_
      refine il1 c273_40 ?_
      obtain ⟨⟨ov8, I9, J10⟩, e11, h⟩ := pm_bd_sp h
      dsimp only at h
      refine cz2 q273_41 (μ1 := (I9, J10, P, pm_T0, e)) (d223 hw e11) rfl ?_
      refine r_ic c273_44 kI0 ?_
      refine is2 c273_45 rfl ?_
      exact (d273_L hw pm_FU).1 h
    · rw [if_neg (pm_bf h7)] at h
      refine r_ic c273_37 kI0 ?_
      cases h
      exact r_ri c273_38 rt273 rfl rfl
  · rw [if_neg (Int.not_lt.mpr h2)] at h
    refine il1 c273_10 ?_
    refine al0 c273_11 ?_
    refine r_gi g273_12 (by first | rfl | assumption) rfl ?_
    refine r_icgt (t := 28) c273_15 rfl (fun h12 => ?_) (fun h12 => ?_)
    · rw [if_pos h12] at h
      refine r_ic c273_28 kI0 ?_
      refine r_ic c273_29 kI1 ?_
      refine r_ic c273_30 kI1 ?_
      obtain ⟨⟨ov13, I14, J15⟩, e16, h⟩ := pm_bd_sp h
      dsimp only at h
      refine cv4 q273_31 (v := .int (pm_bi ov13)) (μ1 := (I14, J15, P, pm_T0, e)) (d222 hw e16) rfl ?_
      refine r_ifne (t := 39) c273_34 rfl (fun h17 => ?_) (fun h17 => ?_)
      · rw [if_pos (pm_bt h17)] at h
        refine al0 c273_39 ?_
        refine il1 c273_40 ?_
        obtain ⟨⟨ov18, I19, J20⟩, e21, h⟩ := pm_bd_sp h
        dsimp only at h
        refine cz2 q273_41 (μ1 := (I19, J20, P, pm_T0, e)) (d223 hw e21) rfl ?_
        refine r_ic c273_44 kI0 ?_
        refine is2 c273_45 rfl ?_
        exact (d273_L hw pm_FU).1 h
      · rw [if_neg (pm_bf h17)] at h
        refine r_ic c273_37 kI0 ?_
        cases h
        exact r_ri c273_38 rt273 rfl rfl
    · rw [if_neg (Int.not_lt.mpr h12)] at h
      refine il1 c273_18 ?_
      refine r_bi c273_19 kB100 ?_
      refine r_icgt (t := 28) c273_21 rfl (fun h22 => ?_) (fun h22 => ?_)
      · rw [if_pos h22] at h
        refine r_ic c273_28 kI0 ?_
        refine r_ic c273_29 kI1 ?_
        refine r_ic c273_30 kI1 ?_
        obtain ⟨⟨ov23, I24, J25⟩, e26, h⟩ := pm_bd_sp h
        dsimp only at h
        refine cv4 q273_31 (v := .int (pm_bi ov23)) (μ1 := (I24, J25, P, pm_T0, e)) (d222 hw e26) rfl ?_
        refine r_ifne (t := 39) c273_34 rfl (fun h27 => ?_) (fun h27 => ?_)
        · rw [if_pos (pm_bt h27)] at h
          refine al0 c273_39 ?_
          refine il1 c273_40 ?_
          obtain ⟨⟨ov28, I29, J30⟩, e31, h⟩ := pm_bd_sp h
          dsimp only at h
          refine cz2 q273_41 (μ1 := (I29, J30, P, pm_T0, e)) (d223 hw e31) rfl ?_
          refine r_ic c273_44 kI0 ?_
          refine is2 c273_45 rfl ?_
          exact (d273_L hw pm_FU).1 h
        · rw [if_neg (pm_bf h27)] at h
          refine r_ic c273_37 kI0 ?_
          cases h
          exact r_ri c273_38 rt273 rfl rfl
      · rw [if_neg (Int.not_lt.mpr h22)] at h
        refine r_ic c273_24 kI1 ?_
        refine r_go (t := 29) c273_25 rfl ?_
        refine r_ic c273_29 kI1 ?_
        refine r_ic c273_30 kI1 ?_
        obtain ⟨⟨ov32, I33, J34⟩, e35, h⟩ := pm_bd_sp h
        dsimp only at h
        refine cv4 q273_31 (v := .int (pm_bi ov32)) (μ1 := (I33, J34, P, pm_T0, e)) (d222 hw e35) rfl ?_
        refine r_ifne (t := 39) c273_34 rfl (fun h36 => ?_) (fun h36 => ?_)
        · rw [if_pos (pm_bt h36)] at h
          refine al0 c273_39 ?_
          refine il1 c273_40 ?_
          obtain ⟨⟨ov37, I38, J39⟩, e40, h⟩ := pm_bd_sp h
          dsimp only at h
          refine cz2 q273_41 (μ1 := (I38, J39, P, pm_T0, e)) (d223 hw e40) rfl ?_
          refine r_ic c273_44 kI0 ?_
          refine is2 c273_45 rfl ?_
          exact (d273_L hw pm_FU).1 h
        · rw [if_neg (pm_bf h36)] at h
          refine r_ic c273_37 kI0 ?_
          cases h
          exact r_ri c273_38 rt273 rfl rfl
