/-! THE METHODS AS FUNCTIONS OF THE MEMORY (written by dec.py) -/
def f274_26  : Nat → Int32 → (Nat → Nat → Int32) → (Nat → Nat → Int64) → Option (Int32 × (Nat → Nat → Int32) × (Nat → Nat → Int64))
  | 0, _, _, _ => none
  | fu + 1, y1, I, J => (if y1.toInt < (66 : Int32).toInt then pm_gd (pm_in ((66 * (I 127 32)) + y1) 1056) (pm_gd (pm_in y1 66) (pm_lt (pm_w I 143 (y1).toNatClampNeg (I 145 ((66 * (I 127 32)) + y1).toNatClampNeg)) (fun I5 => f274_26 fu (y1 + 1) I5 J))) else pm_lt (pm_w I 127 33 0) (fun I2 => some (I2 127 32, I2, J)))
def f274  (I : Nat → Nat → Int32) (J : Nat → Nat → Int64) : Option (Int32 × (Nat → Nat → Int32) × (Nat → Nat → Int64)) := pm_lt (pm_w I 127 0 0) (fun I1 => (if (I1 127 32) = 0 then some ((-1), I1, J) else pm_lt (pm_w I1 127 32 ((I1 127 32) - 1)) (fun I3 => f274_26 pm_FU 0 I3 J)))
theorem d274_26 {X : (Nat → Int32) × Nat} {d : Nat} {P : Nat → Nat → Value} {e r k r2 k2 : Nat}  (hw : pm_W P r k r2 k2)  : ∀ (fu : Nat) {y1 : Int32} {I : Nat → Nat → Int32} {J : Nat → Nat → Int64} {q : Int32 × (Nat → Nat → Int32) × (Nat → Nat → Int64)} (h : f274_26 fu y1 I J = some q), pm_Fx X (d) 274 26 [.ref 127, .int y1] [] (I, J, P, pm_T0, e) (.inl (some (.int q.1))) (q.2.1, q.2.2, P, pm_T0, e) := by
  obtain ⟨hp, hw1, hw2, hw3, hw4, hw5, hw6, hw7, hw8, hw9, hw10, hw11⟩ := id hw
  have hwa := hw5.1
  have hwb := hw6.1
  have hwc := hw7.1
  have hwd := hw8.1
  intro fu
  induction fu with
  | zero => intro y1 I J q h; cases h
  | succ fu ih =>
    intro y1 I J q h
    rw [f274_26] at h
    refine il1 c274_26 ?_
    refine r_bi c274_27 kB66 ?_
    refine r_icge (t := 58) c274_29 rfl (fun h1 => ?_) (fun h1 => ?_)
    · rw [if_neg (Int.not_lt.mpr h1)] at h
      refine al0 c274_58 ?_
      refine r_ic c274_59 kI0 ?_
      refine w_pi p274_60 (by first | rfl | assumption) rfl ?_
      rw [pm_lt_eq] at h
      generalize pm_w I 127 33 0 = I2 at h ⊢
      refine al0 c274_63 ?_
      refine r_gi g274_64 (by first | rfl | assumption) rfl ?_
      cases h
      exact r_ri c274_67 rt274 rfl rfl
    · rw [if_pos h1] at h
      refine al0 c274_32 ?_
      refine r_gr g274_33 rfl rfl (hp _ _ _ rfl) ?_
      refine il1 c274_36 ?_
      refine al0 c274_37 ?_
      refine r_gr g274_38 rfl rfl (hp _ _ _ rfl) ?_
      refine r_bi c274_41 kB66 ?_
      refine al0 c274_43 ?_
      refine r_gi g274_44 (by first | rfl | assumption) rfl ?_
      refine r_imul c274_47 ?_
      refine il1 c274_48 ?_
      refine r_iadd c274_49 ?_
      obtain ⟨gd3, h⟩ := pm_gd_sp h
      refine w_ia c274_50 (by first | rfl | assumption) gd3 ?_
      obtain ⟨gd4, h⟩ := pm_gd_sp h
      refine w_ist c274_51 (by first | rfl | assumption) gd4 ?_
      rw [pm_lt_eq] at h
      generalize pm_w I 143 (y1).toNatClampNeg (I 145 ((66 * (I 127 32)) + y1).toNatClampNeg) = I5 at h ⊢
      refine ii1 c274_52 kI1 rfl ?_
      refine r_go (t := 26) c274_55 rfl ?_
      exact ih h
theorem d274 {X : (Nat → Int32) × Nat} {d : Nat} {I : Nat → Nat → Int32} {J : Nat → Nat → Int64} {P : Nat → Nat → Value} {e r k r2 k2 : Nat}  {q : Int32 × (Nat → Nat → Int32) × (Nat → Nat → Int64)} (hw : pm_W P r k r2 k2)  (h : f274  I J = some q) : pm_Fn X (d) 274 1 [.ref 127] (I, J, P, pm_T0, e) (.inl (some (.int q.1))) (q.2.1, q.2.2, P, pm_T0, e) := by
  obtain ⟨hp, hw1, hw2, hw3, hw4, hw5, hw6, hw7, hw8, hw9, hw10, hw11⟩ := id hw
  have hwa := hw5.1
  have hwb := hw6.1
  have hwc := hw7.1
  have hwd := hw8.1
  unfold f274 at h
  refine fn_v rc274 (c := 12) (nf := 59) (by first | rfl | assumption) ml274 rfl rfl rfl rfl ?_
  refine al0 c274_0 ?_
  refine r_ic c274_1 kI0 ?_
  refine w_pi p274_2 (by first | rfl | assumption) rfl ?_
  rw [pm_lt_eq] at h
  generalize pm_w I 127 0 0 = I1 at h ⊢
  refine al0 c274_5 ?_
  refine r_gi g274_6 (by first | rfl | assumption) rfl ?_
  refine r_ifne (t := 14) c274_9 rfl (fun h2 => ?_) (fun h2 => ?_)
  · rw [if_neg h2] at h
    refine al0 c274_14 ?_
    refine r_dpr c274_15 ?_
    refine r_gi g274_16 (by first | rfl | assumption) rfl ?_
    refine r_ic c274_19 kI1 ?_
    refine r_isub c274_20 ?_
    refine w_pi p274_21 (by first | rfl | assumption) rfl ?_
    rw [pm_lt_eq] at h
    generalize pm_w I1 127 32 ((I1 127 32) - 1) = I3 at h ⊢
    refine r_ic c274_24 kI0 ?_
    refine is1 c274_25 rfl ?_
    exact d274_26 hw pm_FU h
  · rw [if_pos h2] at h
    refine r_ic c274_12 kIm1 ?_
    cases h
    exact r_ri c274_13 rt274 rfl rfl
def f275 (x1 : Int32) (I : Nat → Nat → Int32) (J : Nat → Nat → Int64) : Option (Int32 × (Nat → Nat → Int32) × (Nat → Nat → Int64)) := pm_lt (pm_w I 127 0 0) (fun I1 => (f222 (pm_bi (v241 x1 0 10 I1)) 1 1 I1 J).bind (fun (ov2, I3, J4) => (if ov2 = true then (f253  I3 J4).bind (fun (ov7, I8, J9) => (if x1.toInt < (4 : Int32).toInt then (if x1 = 0 then some (I8 127 18, I8, J9) else (if x1 = 1 then some (I8 127 19, I8, J9) else (if x1 = 2 then pm_gd (pm_in 64 66) (some (I8 144 (64 : Int32).toNatClampNeg, I8, J9)) else pm_gd (pm_in 65 66) (some (I8 144 (65 : Int32).toNatClampNeg, I8, J9))))) else (if x1.toInt < (8 : Int32).toInt then (f257 (x1 - 4) I8 J9).bind (fun (ov15, I16, J17) => some (ov15, I16, J17)) else (if x1 = 8 then some (I8 127 45, I8, J9) else (if x1 = 9 then some (I8 127 33, I8, J9) else some (I8 127 20, I8, J9)))))) else some (0, I3, J4))))
theorem d275 {X : (Nat → Int32) × Nat} {d : Nat} {I : Nat → Nat → Int32} {J : Nat → Nat → Int64} {P : Nat → Nat → Value} {e r k r2 k2 : Nat} {x1 : Int32} {q : Int32 × (Nat → Nat → Int32) × (Nat → Nat → Int64)} (hw : pm_W P r k r2 k2)  (h : f275 x1 I J = some q) : pm_Fn X (d + 2) 275 1 [.ref 127, .int x1] (I, J, P, pm_T0, e) (.inl (some (.int q.1))) (q.2.1, q.2.2, P, pm_T0, e) := by
  obtain ⟨hp, hw1, hw2, hw3, hw4, hw5, hw6, hw7, hw8, hw9, hw10, hw11⟩ := id hw
  have hwa := hw5.1
  have hwb := hw6.1
  have hwc := hw7.1
  have hwd := hw8.1
  unfold f275 at h
  refine fn_v rc275 (c := 12) (nf := 59) (by first | rfl | assumption) ml275 rfl rfl rfl rfl ?_
  refine al0 c275_0 ?_
  refine r_ic c275_1 kI0 ?_
  refine w_pi p275_2 (by first | rfl | assumption) rfl ?_
  rw [pm_lt_eq] at h
  generalize pm_w I 127 0 0 = I1 at h ⊢
  refine al0 c275_5 ?_
  refine il1 c275_6 ?_
  refine r_ic c275_7 kI0 ?_
  refine r_bi c275_8 kB10 ?_
  refine cv3 q275_10 (d241 hw rfl) rfl ?_
  refine r_ic c275_13 kI1 ?_
  refine r_ic c275_14 kI1 ?_
  obtain ⟨⟨ov2, I3, J4⟩, e5, h⟩ := pm_bd_sp h
  dsimp only at h
  refine cv4 q275_15 (v := .int (pm_bi ov2)) (μ1 := (I3, J4, P, pm_T0, e)) (d222 hw e5) rfl ?_
  refine r_ifne (t := 23) c275_18 rfl (fun h6 => ?_) (fun h6 => ?_)
  · rw [if_pos (pm_bt h6)] at h
    refine al0 c275_23 ?_
    obtain ⟨⟨ov7, I8, J9⟩, e10, h⟩ := pm_bd_sp h
    dsimp only at h
    refine cz1 q275_24 (μ1 := (I8, J9, P, pm_T0, e)) (d253 hw e10) rfl ?_
    refine il1 c275_27 ?_
    refine r_ic c275_28 kI4 ?_
    refine r_icge (t := 78) c275_29 rfl (fun h11 => ?_) (fun h11 => ?_)
    · rw [if_neg (Int.not_lt.mpr h11)] at h
      refine il1 c275_78 ?_
      refine r_bi c275_79 kB8 ?_
      refine r_icge (t := 92) c275_81 rfl (fun h12 => ?_) (fun h12 => ?_)
      · rw [if_neg (Int.not_lt.mpr h12)] at h
        refine il1 c275_92 ?_
        refine r_bi c275_93 kB8 ?_
        refine r_icne (t := 105) c275_95 rfl (fun h13 => ?_) (fun h13 => ?_)
        · rw [if_neg h13] at h
          refine il1 c275_105 ?_
          refine r_bi c275_106 kB9 ?_
          refine r_icne (t := 118) c275_108 rfl (fun h14 => ?_) (fun h14 => ?_)
          · rw [if_neg h14] at h
            refine al0 c275_118 ?_
            refine r_gi g275_119 (by first | rfl | assumption) rfl ?_
            cases h
            exact r_ri c275_122 rt275 rfl rfl
          · rw [if_pos h14] at h
            refine al0 c275_111 ?_
            refine r_gi g275_112 (by first | rfl | assumption) rfl ?_
            refine r_go (t := 122) c275_115 rfl ?_
            cases h
            exact r_ri c275_122 rt275 rfl rfl
        · rw [if_pos h13] at h
          refine al0 c275_98 ?_
          refine r_gi g275_99 (by first | rfl | assumption) rfl ?_
          refine r_go (t := 122) c275_102 rfl ?_
          cases h
          exact r_ri c275_122 rt275 rfl rfl
      · rw [if_pos h12] at h
        refine al0 c275_84 ?_
        refine il1 c275_85 ?_
        refine r_ic c275_86 kI4 ?_
        refine r_isub c275_87 ?_
        obtain ⟨⟨ov15, I16, J17⟩, e18, h⟩ := pm_bd_sp h
        dsimp only at h
        refine cv2 q275_88 (v := .int ov15) (μ1 := (I16, J17, P, pm_T0, e)) (d257 hw e18) rfl ?_
        cases h
        exact r_ri c275_91 rt275 rfl rfl
    · rw [if_pos h11] at h
      refine il1 c275_32 ?_
      refine r_ifne (t := 43) c275_33 rfl (fun h19 => ?_) (fun h19 => ?_)
      · rw [if_neg h19] at h
        refine il1 c275_43 ?_
        refine r_ic c275_44 kI1 ?_
        refine r_icne (t := 55) c275_45 rfl (fun h20 => ?_) (fun h20 => ?_)
        · rw [if_neg h20] at h
          refine il1 c275_55 ?_
          refine r_ic c275_56 kI2 ?_
          refine r_icne (t := 70) c275_57 rfl (fun h21 => ?_) (fun h21 => ?_)
          · rw [if_neg h21] at h
            refine al0 c275_70 ?_
            refine r_gr g275_71 rfl rfl (hp _ _ _ rfl) ?_
            refine r_bi c275_74 kB65 ?_
            obtain ⟨gd22, h⟩ := pm_gd_sp h
            refine w_ia c275_76 (by first | rfl | assumption) gd22 ?_
            cases h
            exact r_ri c275_77 rt275 rfl rfl
          · rw [if_pos h21] at h
            refine al0 c275_60 ?_
            refine r_gr g275_61 rfl rfl (hp _ _ _ rfl) ?_
            refine r_bi c275_64 kB64 ?_
            obtain ⟨gd23, h⟩ := pm_gd_sp h
            refine w_ia c275_66 (by first | rfl | assumption) gd23 ?_
            refine r_go (t := 77) c275_67 rfl ?_
            cases h
            exact r_ri c275_77 rt275 rfl rfl
        · rw [if_pos h20] at h
          refine al0 c275_48 ?_
          refine r_gi g275_49 (by first | rfl | assumption) rfl ?_
          refine r_go (t := 77) c275_52 rfl ?_
          cases h
          exact r_ri c275_77 rt275 rfl rfl
      · rw [if_pos h19] at h
        refine al0 c275_36 ?_
        refine r_gi g275_37 (by first | rfl | assumption) rfl ?_
        refine r_go (t := 77) c275_40 rfl ?_
        cases h
        exact r_ri c275_77 rt275 rfl rfl
  · rw [if_neg (pm_bf h6)] at h
    refine r_ic c275_21 kI0 ?_
    cases h
    exact r_ri c275_22 rt275 rfl rfl
def f277 (x1 : Int32) (x2 : Int32) (I : Nat → Nat → Int32) (J : Nat → Nat → Int64) : Option (Bool × (Nat → Nat → Int32) × (Nat → Nat → Int64)) := (f222 (pm_bi (v241 x1 0 ((I 127 18) - 1) I)) x2 0 I J).bind (fun (ov1, I2, J3) => some (ov1, I2, J3))
theorem d277 {X : (Nat → Int32) × Nat} {d : Nat} {I : Nat → Nat → Int32} {J : Nat → Nat → Int64} {P : Nat → Nat → Value} {e r k r2 k2 : Nat} {x1 : Int32} {x2 : Int32} {q : Bool × (Nat → Nat → Int32) × (Nat → Nat → Int64)} (hw : pm_W P r k r2 k2)  (h : f277 x1 x2 I J = some q) : pm_Fn X (d + 1) 277 1 [.ref 127, .int x1, .int x2] (I, J, P, pm_T0, e) (.inl (some (.int (pm_bi q.1)))) (q.2.1, q.2.2, P, pm_T0, e) := by
  obtain ⟨hp, hw1, hw2, hw3, hw4, hw5, hw6, hw7, hw8, hw9, hw10, hw11⟩ := id hw
  have hwa := hw5.1
  have hwb := hw6.1
  have hwc := hw7.1
  have hwd := hw8.1
  unfold f277 at h
  refine fn_v rc277 (c := 12) (nf := 59) (by first | rfl | assumption) ml277 rfl rfl rfl rfl ?_
  refine al0 c277_0 ?_
  refine il1 c277_1 ?_
  refine r_ic c277_2 kI0 ?_
  refine al0 c277_3 ?_
  refine r_gi g277_4 (by first | rfl | assumption) rfl ?_
  refine r_ic c277_7 kI1 ?_
  refine r_isub c277_8 ?_
  refine cv3 q277_9 (d241 hw rfl) rfl ?_
  refine il2 c277_12 ?_
  refine r_ic c277_13 kI0 ?_
  obtain ⟨⟨ov1, I2, J3⟩, e4, h⟩ := pm_bd_sp h
  dsimp only at h
  refine cv4 q277_14 (v := .int (pm_bi ov1)) (μ1 := (I2, J3, P, pm_T0, e)) (d222 hw e4) rfl ?_
  cases h
  exact r_rz c277_17 rt277 (pm_bi01 _) rfl rfl
def f276 (x1 : Int32) (x2 : Int32) (I : Nat → Nat → Int32) (J : Nat → Nat → Int64) : Option (Int32 × (Nat → Nat → Int32) × (Nat → Nat → Int64)) := pm_lt (pm_w I 127 0 0) (fun I1 => (f277 x1 1 I1 J).bind (fun (ov2, I3, J4) => (if ov2 = true then (f222 (pm_bi (v241 x2 0 9 I3)) 2 1 I3 J4).bind (fun (ov7, I8, J9) => (if ov7 = true then (if x2.toInt < (3 : Int32).toInt then pm_gd (pm_in ((4 * x1) + x2) 32) (some (I8 132 ((4 * x1) + x2).toNatClampNeg, I8, J9)) else (if x2.toInt < (6 : Int32).toInt then (if x2 = 3 then pm_gd (pm_in (0 + x1) 66) (some (I8 143 (0 + x1).toNatClampNeg, I8, J9)) else (if x2 = 4 then pm_gd (pm_in (8 + x1) 66) (some (I8 143 (8 + x1).toNatClampNeg, I8, J9)) else pm_gd (pm_in (16 + x1) 66) (some (I8 143 (16 + x1).toNatClampNeg, I8, J9)))) else (if x2.toInt < (8 : Int32).toInt then (if x2 = 6 then pm_gd (pm_in (24 + x1) 66) (some (I8 143 (24 + x1).toNatClampNeg, I8, J9)) else pm_gd (pm_in (32 + x1) 66) (some (I8 143 (32 + x1).toNatClampNeg, I8, J9))) else (if x2 = 8 then pm_gd (pm_in (40 + x1) 66) (some (I8 143 (40 + x1).toNatClampNeg, I8, J9)) else pm_gd (pm_in (56 + x1) 66) (some (I8 143 (56 + x1).toNatClampNeg, I8, J9)))))) else some (0, I8, J9))) else some (0, I3, J4))))
theorem d276 {X : (Nat → Int32) × Nat} {d : Nat} {I : Nat → Nat → Int32} {J : Nat → Nat → Int64} {P : Nat → Nat → Value} {e r k r2 k2 : Nat} {x1 : Int32} {x2 : Int32} {q : Int32 × (Nat → Nat → Int32) × (Nat → Nat → Int64)} (hw : pm_W P r k r2 k2)  (h : f276 x1 x2 I J = some q) : pm_Fn X (d + 2) 276 1 [.ref 127, .int x1, .int x2] (I, J, P, pm_T0, e) (.inl (some (.int q.1))) (q.2.1, q.2.2, P, pm_T0, e) := by
  obtain ⟨hp, hw1, hw2, hw3, hw4, hw5, hw6, hw7, hw8, hw9, hw10, hw11⟩ := id hw
  have hwa := hw5.1
  have hwb := hw6.1
  have hwc := hw7.1
  have hwd := hw8.1
  unfold f276 at h
  refine fn_v rc276 (c := 12) (nf := 59) (by first | rfl | assumption) ml276 rfl rfl rfl rfl ?_
  refine al0 c276_0 ?_
  refine r_ic c276_1 kI0 ?_
  refine w_pi p276_2 (by first | rfl | assumption) rfl ?_
  rw [pm_lt_eq] at h
  generalize pm_w I 127 0 0 = I1 at h ⊢
  refine al0 c276_5 ?_
  refine il1 c276_6 ?_
  refine r_ic c276_7 kI1 ?_
  obtain ⟨⟨ov2, I3, J4⟩, e5, h⟩ := pm_bd_sp h
  dsimp only at h
  refine cv3 q276_8 (v := .int (pm_bi ov2)) (μ1 := (I3, J4, P, pm_T0, e)) (d277 hw e5) rfl ?_
  refine r_ifeq (t := 30) c276_11 rfl (fun h6 => ?_) (fun h6 => ?_)
  · rw [if_neg (pm_bf h6)] at h
    refine r_ic c276_30 kI0 ?_
    cases h
    exact r_ri c276_31 rt276 rfl rfl
  · rw [if_pos (pm_bt h6)] at h
    refine al0 c276_14 ?_
    refine il2 c276_15 ?_
    refine r_ic c276_16 kI0 ?_
    refine r_bi c276_17 kB9 ?_
    refine cv3 q276_19 (d241 hw rfl) rfl ?_
    refine r_ic c276_22 kI2 ?_
    refine r_ic c276_23 kI1 ?_
    obtain ⟨⟨ov7, I8, J9⟩, e10, h⟩ := pm_bd_sp h
    dsimp only at h
    refine cv4 q276_24 (v := .int (pm_bi ov7)) (μ1 := (I8, J9, P, pm_T0, e)) (d222 hw e10) rfl ?_
    refine r_ifne (t := 32) c276_27 rfl (fun h11 => ?_) (fun h11 => ?_)
    · rw [if_pos (pm_bt h11)] at h
      refine il2 c276_32 ?_
      refine r_ic c276_33 kI3 ?_
      refine r_icge (t := 48) c276_34 rfl (fun h12 => ?_) (fun h12 => ?_)
      · rw [if_neg (Int.not_lt.mpr h12)] at h
        refine il2 c276_48 ?_
        refine r_bi c276_49 kB6 ?_
        refine r_icge (t := 97) c276_51 rfl (fun h13 => ?_) (fun h13 => ?_)
        · rw [if_neg (Int.not_lt.mpr h13)] at h
          refine il2 c276_97 ?_
          refine r_bi c276_98 kB8 ?_
          refine r_icge (t := 131) c276_100 rfl (fun h14 => ?_) (fun h14 => ?_)
          · rw [if_neg (Int.not_lt.mpr h14)] at h
            refine il2 c276_131 ?_
            refine r_bi c276_132 kB8 ?_
            refine r_icne (t := 149) c276_134 rfl (fun h15 => ?_) (fun h15 => ?_)
            · rw [if_neg h15] at h
              refine al0 c276_149 ?_
              refine r_gr g276_150 rfl rfl (hp _ _ _ rfl) ?_
              refine r_bi c276_153 kB56 ?_
              refine il1 c276_155 ?_
              refine r_iadd c276_156 ?_
              obtain ⟨gd16, h⟩ := pm_gd_sp h
              refine w_ia c276_157 (by first | rfl | assumption) gd16 ?_
              cases h
              exact r_ri c276_158 rt276 rfl rfl
            · rw [if_pos h15] at h
              refine al0 c276_137 ?_
              refine r_gr g276_138 rfl rfl (hp _ _ _ rfl) ?_
              refine r_bi c276_141 kB40 ?_
              refine il1 c276_143 ?_
              refine r_iadd c276_144 ?_
              obtain ⟨gd17, h⟩ := pm_gd_sp h
              refine w_ia c276_145 (by first | rfl | assumption) gd17 ?_
              refine r_go (t := 158) c276_146 rfl ?_
              cases h
              exact r_ri c276_158 rt276 rfl rfl
          · rw [if_pos h14] at h
            refine il2 c276_103 ?_
            refine r_bi c276_104 kB6 ?_
            refine r_icne (t := 121) c276_106 rfl (fun h18 => ?_) (fun h18 => ?_)
            · rw [if_neg h18] at h
              refine al0 c276_121 ?_
              refine r_gr g276_122 rfl rfl (hp _ _ _ rfl) ?_
              refine r_bi c276_125 kB32 ?_
              refine il1 c276_127 ?_
              refine r_iadd c276_128 ?_
              obtain ⟨gd19, h⟩ := pm_gd_sp h
              refine w_ia c276_129 (by first | rfl | assumption) gd19 ?_
              cases h
              exact r_ri c276_130 rt276 rfl rfl
            · rw [if_pos h18] at h
              refine al0 c276_109 ?_
              refine r_gr g276_110 rfl rfl (hp _ _ _ rfl) ?_
              refine r_bi c276_113 kB24 ?_
              refine il1 c276_115 ?_
              refine r_iadd c276_116 ?_
              obtain ⟨gd20, h⟩ := pm_gd_sp h
              refine w_ia c276_117 (by first | rfl | assumption) gd20 ?_
              refine r_go (t := 130) c276_118 rfl ?_
              cases h
              exact r_ri c276_130 rt276 rfl rfl
        · rw [if_pos h13] at h
          refine il2 c276_54 ?_
          refine r_ic c276_55 kI3 ?_
          refine r_icne (t := 70) c276_56 rfl (fun h21 => ?_) (fun h21 => ?_)
          · rw [if_neg h21] at h
            refine il2 c276_70 ?_
            refine r_ic c276_71 kI4 ?_
            refine r_icne (t := 87) c276_72 rfl (fun h22 => ?_) (fun h22 => ?_)
            · rw [if_neg h22] at h
              refine al0 c276_87 ?_
              refine r_gr g276_88 rfl rfl (hp _ _ _ rfl) ?_
              refine r_bi c276_91 kB16 ?_
              refine il1 c276_93 ?_
              refine r_iadd c276_94 ?_
              obtain ⟨gd23, h⟩ := pm_gd_sp h
              refine w_ia c276_95 (by first | rfl | assumption) gd23 ?_
              cases h
              exact r_ri c276_96 rt276 rfl rfl
            · rw [if_pos h22] at h
              refine al0 c276_75 ?_
              refine r_gr g276_76 rfl rfl (hp _ _ _ rfl) ?_
              refine r_bi c276_79 kB8 ?_
              refine il1 c276_81 ?_
              refine r_iadd c276_82 ?_
              obtain ⟨gd24, h⟩ := pm_gd_sp h
              refine w_ia c276_83 (by first | rfl | assumption) gd24 ?_
              refine r_go (t := 96) c276_84 rfl ?_
              cases h
              exact r_ri c276_96 rt276 rfl rfl
          · rw [if_pos h21] at h
            refine al0 c276_59 ?_
            refine r_gr g276_60 rfl rfl (hp _ _ _ rfl) ?_
            refine r_ic c276_63 kI0 ?_
            refine il1 c276_64 ?_
            refine r_iadd c276_65 ?_
            obtain ⟨gd25, h⟩ := pm_gd_sp h
            refine w_ia c276_66 (by first | rfl | assumption) gd25 ?_
            refine r_go (t := 96) c276_67 rfl ?_
            cases h
            exact r_ri c276_96 rt276 rfl rfl
      · rw [if_pos h12] at h
        refine al0 c276_37 ?_
        refine r_gr g276_38 rfl rfl (hp _ _ _ rfl) ?_
        refine r_ic c276_41 kI4 ?_
        refine il1 c276_42 ?_
        refine r_imul c276_43 ?_
        refine il2 c276_44 ?_
        refine r_iadd c276_45 ?_
        obtain ⟨gd26, h⟩ := pm_gd_sp h
        refine w_ia c276_46 (by first | rfl | assumption) gd26 ?_
        cases h
        exact r_ri c276_47 rt276 rfl rfl
    · rw [if_neg (pm_bf h11)] at h
      refine r_ic c276_30 kI0 ?_
      cases h
      exact r_ri c276_31 rt276 rfl rfl
def f279 (x1 : Int32) (x2 : Int32) (I : Nat → Nat → Int32) (J : Nat → Nat → Int64) : Option (Bool × (Nat → Nat → Int32) × (Nat → Nat → Int64)) := (f222 (pm_bi (v241 x1 0 ((I 127 19) - 1) I)) x2 0 I J).bind (fun (ov1, I2, J3) => some (ov1, I2, J3))
theorem d279 {X : (Nat → Int32) × Nat} {d : Nat} {I : Nat → Nat → Int32} {J : Nat → Nat → Int64} {P : Nat → Nat → Value} {e r k r2 k2 : Nat} {x1 : Int32} {x2 : Int32} {q : Bool × (Nat → Nat → Int32) × (Nat → Nat → Int64)} (hw : pm_W P r k r2 k2)  (h : f279 x1 x2 I J = some q) : pm_Fn X (d + 1) 279 1 [.ref 127, .int x1, .int x2] (I, J, P, pm_T0, e) (.inl (some (.int (pm_bi q.1)))) (q.2.1, q.2.2, P, pm_T0, e) := by
  obtain ⟨hp, hw1, hw2, hw3, hw4, hw5, hw6, hw7, hw8, hw9, hw10, hw11⟩ := id hw
  have hwa := hw5.1
  have hwb := hw6.1
  have hwc := hw7.1
  have hwd := hw8.1
  unfold f279 at h
  refine fn_v rc279 (c := 12) (nf := 59) (by first | rfl | assumption) ml279 rfl rfl rfl rfl ?_
  refine al0 c279_0 ?_
  refine il1 c279_1 ?_
  refine r_ic c279_2 kI0 ?_
  refine al0 c279_3 ?_
  refine r_gi g279_4 (by first | rfl | assumption) rfl ?_
  refine r_ic c279_7 kI1 ?_
  refine r_isub c279_8 ?_
  refine cv3 q279_9 (d241 hw rfl) rfl ?_
  refine il2 c279_12 ?_
  refine r_ic c279_13 kI0 ?_
  obtain ⟨⟨ov1, I2, J3⟩, e4, h⟩ := pm_bd_sp h
  dsimp only at h
  refine cv4 q279_14 (v := .int (pm_bi ov1)) (μ1 := (I2, J3, P, pm_T0, e)) (d222 hw e4) rfl ?_
  cases h
  exact r_rz c279_17 rt279 (pm_bi01 _) rfl rfl
def f278 (x1 : Int32) (x2 : Int32) (I : Nat → Nat → Int32) (J : Nat → Nat → Int64) : Option (Int32 × (Nat → Nat → Int32) × (Nat → Nat → Int64)) := pm_lt (pm_w I 127 0 0) (fun I1 => (f279 x1 1 I1 J).bind (fun (ov2, I3, J4) => (if ov2 = true then (f222 (pm_bi (v241 x2 0 3 I3)) 2 1 I3 J4).bind (fun (ov7, I8, J9) => (if ov7 = true then (f253  I8 J9).bind (fun (ov12, I13, J14) => (if x2.toInt < (3 : Int32).toInt then pm_gd (pm_in ((3 * x1) + x2) 15) (some (I13 133 ((3 * x1) + x2).toNatClampNeg, I13, J14)) else (f259 x1 I13 J14).bind (fun (ov17, I18, J19) => some (ov17, I18, J19)))) else some (0, I8, J9))) else some (0, I3, J4))))
theorem d278 {X : (Nat → Int32) × Nat} {d : Nat} {I : Nat → Nat → Int32} {J : Nat → Nat → Int64} {P : Nat → Nat → Value} {e r k r2 k2 : Nat} {x1 : Int32} {x2 : Int32} {q : Int32 × (Nat → Nat → Int32) × (Nat → Nat → Int64)} (hw : pm_W P r k r2 k2)  (h : f278 x1 x2 I J = some q) : pm_Fn X (d + 2) 278 1 [.ref 127, .int x1, .int x2] (I, J, P, pm_T0, e) (.inl (some (.int q.1))) (q.2.1, q.2.2, P, pm_T0, e) := by
  obtain ⟨hp, hw1, hw2, hw3, hw4, hw5, hw6, hw7, hw8, hw9, hw10, hw11⟩ := id hw
  have hwa := hw5.1
  have hwb := hw6.1
  have hwc := hw7.1
  have hwd := hw8.1
  unfold f278 at h
  refine fn_v rc278 (c := 12) (nf := 59) (by first | rfl | assumption) ml278 rfl rfl rfl rfl ?_
  refine al0 c278_0 ?_
  refine r_ic c278_1 kI0 ?_
  refine w_pi p278_2 (by first | rfl | assumption) rfl ?_
  rw [pm_lt_eq] at h
  generalize pm_w I 127 0 0 = I1 at h ⊢
  refine al0 c278_5 ?_
  refine il1 c278_6 ?_
  refine r_ic c278_7 kI1 ?_
  obtain ⟨⟨ov2, I3, J4⟩, e5, h⟩ := pm_bd_sp h
  dsimp only at h
  refine cv3 q278_8 (v := .int (pm_bi ov2)) (μ1 := (I3, J4, P, pm_T0, e)) (d279 hw e5) rfl ?_
  refine r_ifeq (t := 29) c278_11 rfl (fun h6 => ?_) (fun h6 => ?_)
  · rw [if_neg (pm_bf h6)] at h
    refine r_ic c278_29 kI0 ?_
    cases h
    exact r_ri c278_30 rt278 rfl rfl
  · rw [if_pos (pm_bt h6)] at h
    refine al0 c278_14 ?_
    refine il2 c278_15 ?_
    refine r_ic c278_16 kI0 ?_
    refine r_ic c278_17 kI3 ?_
    refine cv3 q278_18 (d241 hw rfl) rfl ?_
    refine r_ic c278_21 kI2 ?_
    refine r_ic c278_22 kI1 ?_
    obtain ⟨⟨ov7, I8, J9⟩, e10, h⟩ := pm_bd_sp h
    dsimp only at h
    refine cv4 q278_23 (v := .int (pm_bi ov7)) (μ1 := (I8, J9, P, pm_T0, e)) (d222 hw e10) rfl ?_
    refine r_ifne (t := 31) c278_26 rfl (fun h11 => ?_) (fun h11 => ?_)
    · rw [if_pos (pm_bt h11)] at h
      refine al0 c278_31 ?_
      obtain ⟨⟨ov12, I13, J14⟩, e15, h⟩ := pm_bd_sp h
      dsimp only at h
      refine cz1 q278_32 (μ1 := (I13, J14, P, pm_T0, e)) (d253 hw e15) rfl ?_
      refine il2 c278_35 ?_
      refine r_ic c278_36 kI3 ?_
      refine r_icge (t := 53) c278_37 rfl (fun h16 => ?_) (fun h16 => ?_)
      · rw [if_neg (Int.not_lt.mpr h16)] at h
        refine al0 c278_53 ?_
        refine il1 c278_54 ?_
        obtain ⟨⟨ov17, I18, J19⟩, e20, h⟩ := pm_bd_sp h
        dsimp only at h
        refine cv2 q278_55 (v := .int ov17) (μ1 := (I18, J19, P, pm_T0, e)) (d259 hw e20) rfl ?_
        cases h
        exact r_ri c278_58 rt278 rfl rfl
      · rw [if_pos h16] at h
        refine al0 c278_40 ?_
        refine r_gr g278_41 rfl rfl (hp _ _ _ rfl) ?_
        refine r_ic c278_44 kI3 ?_
        refine il1 c278_45 ?_
        refine r_imul c278_46 ?_
        refine il2 c278_47 ?_
        refine r_iadd c278_48 ?_
        obtain ⟨gd21, h⟩ := pm_gd_sp h
        refine w_ia c278_49 (by first | rfl | assumption) gd21 ?_
        refine r_go (t := 58) c278_50 rfl ?_
        cases h
        exact r_ri c278_58 rt278 rfl rfl
    · rw [if_neg (pm_bf h11)] at h
      refine r_ic c278_29 kI0 ?_
      cases h
      exact r_ri c278_30 rt278 rfl rfl
def f280 (x1 : Int32) (x2 : Int32) (I : Nat → Nat → Int32) (J : Nat → Nat → Int64) : Option (Int32 × (Nat → Nat → Int32) × (Nat → Nat → Int64)) := pm_lt (pm_w I 127 0 0) (fun I1 => (f277 x1 1 I1 J).bind (fun (ov2, I3, J4) => (if ov2 = true then (f222 (pm_bi (v241 x2 0 1 I3)) 2 1 I3 J4).bind (fun (ov7, I8, J9) => (if ov7 = true then (f253  I8 J9).bind (fun (ov12, I13, J14) => (f264 x1 x2 I13 J14).bind (fun (ov16, I17, J18) => some (ov16, I17, J18))) else some (0, I8, J9))) else some (0, I3, J4))))
theorem d280 {X : (Nat → Int32) × Nat} {d : Nat} {I : Nat → Nat → Int32} {J : Nat → Nat → Int64} {P : Nat → Nat → Value} {e r k r2 k2 : Nat} {x1 : Int32} {x2 : Int32} {q : Int32 × (Nat → Nat → Int32) × (Nat → Nat → Int64)} (hw : pm_W P r k r2 k2)  (h : f280 x1 x2 I J = some q) : pm_Fn X (d + 5) 280 1 [.ref 127, .int x1, .int x2] (I, J, P, pm_T0, e) (.inl (some (.int q.1))) (q.2.1, q.2.2, P, pm_T0, e) := by
  obtain ⟨hp, hw1, hw2, hw3, hw4, hw5, hw6, hw7, hw8, hw9, hw10, hw11⟩ := id hw
  have hwa := hw5.1
  have hwb := hw6.1
  have hwc := hw7.1
  have hwd := hw8.1
  unfold f280 at h
  refine fn_v rc280 (c := 12) (nf := 59) (by first | rfl | assumption) ml280 rfl rfl rfl rfl ?_
  refine al0 c280_0 ?_
  refine r_ic c280_1 kI0 ?_
  refine w_pi p280_2 (by first | rfl | assumption) rfl ?_
  rw [pm_lt_eq] at h
  generalize pm_w I 127 0 0 = I1 at h ⊢
  refine al0 c280_5 ?_
  refine il1 c280_6 ?_
  refine r_ic c280_7 kI1 ?_
  obtain ⟨⟨ov2, I3, J4⟩, e5, h⟩ := pm_bd_sp h
  dsimp only at h
  refine cv3 q280_8 (v := .int (pm_bi ov2)) (μ1 := (I3, J4, P, pm_T0, e)) (d277 hw e5) rfl ?_
  refine r_ifeq (t := 29) c280_11 rfl (fun h6 => ?_) (fun h6 => ?_)
  · rw [if_neg (pm_bf h6)] at h
    refine r_ic c280_29 kI0 ?_
    cases h
    exact r_ri c280_30 rt280 rfl rfl
  · rw [if_pos (pm_bt h6)] at h
    refine al0 c280_14 ?_
    refine il2 c280_15 ?_
    refine r_ic c280_16 kI0 ?_
    refine r_ic c280_17 kI1 ?_
    refine cv3 q280_18 (d241 hw rfl) rfl ?_
    refine r_ic c280_21 kI2 ?_
    refine r_ic c280_22 kI1 ?_
    obtain ⟨⟨ov7, I8, J9⟩, e10, h⟩ := pm_bd_sp h
    dsimp only at h
    refine cv4 q280_23 (v := .int (pm_bi ov7)) (μ1 := (I8, J9, P, pm_T0, e)) (d222 hw e10) rfl ?_
    refine r_ifne (t := 31) c280_26 rfl (fun h11 => ?_) (fun h11 => ?_)
    · rw [if_pos (pm_bt h11)] at h
      refine al0 c280_31 ?_
      obtain ⟨⟨ov12, I13, J14⟩, e15, h⟩ := pm_bd_sp h
      dsimp only at h
      refine cz1 q280_32 (μ1 := (I13, J14, P, pm_T0, e)) (d253 hw e15) rfl ?_
      refine al0 c280_35 ?_
      refine il1 c280_36 ?_
      refine il2 c280_37 ?_
      obtain ⟨⟨ov16, I17, J18⟩, e19, h⟩ := pm_bd_sp h
      dsimp only at h
      refine cv3 q280_38 (v := .int ov16) (μ1 := (I17, J18, P, pm_T0, e)) (d264 hw e19) rfl ?_
      cases h
      exact r_ri c280_41 rt280 rfl rfl
    · rw [if_neg (pm_bf h11)] at h
      refine r_ic c280_29 kI0 ?_
      cases h
      exact r_ri c280_30 rt280 rfl rfl
def f281 (x1 : Int32) (I : Nat → Nat → Int32) (J : Nat → Nat → Int64) : Option (Int32 × (Nat → Nat → Int32) × (Nat → Nat → Int64)) := pm_lt (pm_w I 127 0 0) (fun I1 => (f277 x1 1 I1 J).bind (fun (ov2, I3, J4) => (if ov2 = true then (f253  I3 J4).bind (fun (ov7, I8, J9) => (f263 x1 I8 J9).bind (fun (ov11, I12, J13) => some (ov11, I12, J13))) else some (0, I3, J4))))
theorem d281 {X : (Nat → Int32) × Nat} {d : Nat} {I : Nat → Nat → Int32} {J : Nat → Nat → Int64} {P : Nat → Nat → Value} {e r k r2 k2 : Nat} {x1 : Int32} {q : Int32 × (Nat → Nat → Int32) × (Nat → Nat → Int64)} (hw : pm_W P r k r2 k2)  (h : f281 x1 I J = some q) : pm_Fn X (d + 6) 281 1 [.ref 127, .int x1] (I, J, P, pm_T0, e) (.inl (some (.int q.1))) (q.2.1, q.2.2, P, pm_T0, e) := by
  obtain ⟨hp, hw1, hw2, hw3, hw4, hw5, hw6, hw7, hw8, hw9, hw10, hw11⟩ := id hw
  have hwa := hw5.1
  have hwb := hw6.1
  have hwc := hw7.1
  have hwd := hw8.1
  unfold f281 at h
  refine fn_v rc281 (c := 12) (nf := 59) (by first | rfl | assumption) ml281 rfl rfl rfl rfl ?_
  refine al0 c281_0 ?_
  refine r_ic c281_1 kI0 ?_
  refine w_pi p281_2 (by first | rfl | assumption) rfl ?_
  rw [pm_lt_eq] at h
  generalize pm_w I 127 0 0 = I1 at h ⊢
  refine al0 c281_5 ?_
  refine il1 c281_6 ?_
  refine r_ic c281_7 kI1 ?_
  obtain ⟨⟨ov2, I3, J4⟩, e5, h⟩ := pm_bd_sp h
  dsimp only at h
  refine cv3 q281_8 (v := .int (pm_bi ov2)) (μ1 := (I3, J4, P, pm_T0, e)) (d277 hw e5) rfl ?_
  refine r_ifne (t := 16) c281_11 rfl (fun h6 => ?_) (fun h6 => ?_)
  · rw [if_pos (pm_bt h6)] at h
    refine al0 c281_16 ?_
    obtain ⟨⟨ov7, I8, J9⟩, e10, h⟩ := pm_bd_sp h
    dsimp only at h
    refine cz1 q281_17 (μ1 := (I8, J9, P, pm_T0, e)) (d253 hw e10) rfl ?_
    refine al0 c281_20 ?_
    refine il1 c281_21 ?_
    obtain ⟨⟨ov11, I12, J13⟩, e14, h⟩ := pm_bd_sp h
    dsimp only at h
    refine cv2 q281_22 (v := .int ov11) (μ1 := (I12, J13, P, pm_T0, e)) (d263 hw e14) rfl ?_
    cases h
    exact r_ri c281_25 rt281 rfl rfl
  · rw [if_neg (pm_bf h6)] at h
    refine r_ic c281_14 kI0 ?_
    cases h
    exact r_ri c281_15 rt281 rfl rfl
def f282 (x1 : Int32) (x2 : Int32) (x3 : Int32) (x4 : Int32) (x5 : Int32) (x6 : Int32) (I : Nat → Nat → Int32) (J : Nat → Nat → Int64) : Option (Int32 × (Nat → Nat → Int32) × (Nat → Nat → Int64)) := pm_lt (pm_w I 127 0 0) (fun I1 => (if (v241 x1 1 9 I1) = true then (if (v241 x2 0 99 I1) = true then (if (v241 x3 0 5 I1) = true then (if (v241 x4 0 99 I1) = true then (if (v241 x5 0 1 I1) = true then (if (v241 x6 0 900 I1) = true then (f222 1 1 1 I1 J).bind (fun (ov158, I159, J160) => (if ov158 = true then pm_gd (pm_in 0 8) (pm_lt (pm_w I159 140 (0 : Int32).toNatClampNeg x1) (fun I164 => pm_gd (pm_in 1 8) (pm_lt (pm_w I164 140 (1 : Int32).toNatClampNeg x2) (fun I166 => pm_gd (pm_in 2 8) (pm_lt (pm_w I166 140 (2 : Int32).toNatClampNeg x3) (fun I168 => pm_gd (pm_in 3 8) (pm_lt (pm_w I168 140 (3 : Int32).toNatClampNeg x4) (fun I170 => pm_gd (pm_in 4 8) (pm_lt (pm_w I170 140 (4 : Int32).toNatClampNeg 0) (fun I172 => pm_gd (pm_in 5 8) (pm_lt (pm_w I172 140 (5 : Int32).toNatClampNeg x5) (fun I174 => pm_gd (pm_in 6 8) (pm_lt (pm_w I174 140 (6 : Int32).toNatClampNeg 0) (fun I176 => pm_gd (pm_in 7 8) (pm_lt (pm_w I176 140 (7 : Int32).toNatClampNeg x6) (fun I178 => (f268 0 I178 J160).bind (fun (ov179, I180, J181) => some (ov179, I180, J181)))))))))))))))))) else some (0, I159, J160))) else (f222 0 1 1 I1 J).bind (fun (ov133, I134, J135) => (if ov133 = true then pm_gd (pm_in 0 8) (pm_lt (pm_w I134 140 (0 : Int32).toNatClampNeg x1) (fun I139 => pm_gd (pm_in 1 8) (pm_lt (pm_w I139 140 (1 : Int32).toNatClampNeg x2) (fun I141 => pm_gd (pm_in 2 8) (pm_lt (pm_w I141 140 (2 : Int32).toNatClampNeg x3) (fun I143 => pm_gd (pm_in 3 8) (pm_lt (pm_w I143 140 (3 : Int32).toNatClampNeg x4) (fun I145 => pm_gd (pm_in 4 8) (pm_lt (pm_w I145 140 (4 : Int32).toNatClampNeg 0) (fun I147 => pm_gd (pm_in 5 8) (pm_lt (pm_w I147 140 (5 : Int32).toNatClampNeg x5) (fun I149 => pm_gd (pm_in 6 8) (pm_lt (pm_w I149 140 (6 : Int32).toNatClampNeg 0) (fun I151 => pm_gd (pm_in 7 8) (pm_lt (pm_w I151 140 (7 : Int32).toNatClampNeg x6) (fun I153 => (f268 0 I153 J135).bind (fun (ov154, I155, J156) => some (ov154, I155, J156)))))))))))))))))) else some (0, I134, J135)))) else (f222 0 1 1 I1 J).bind (fun (ov107, I108, J109) => (if ov107 = true then pm_gd (pm_in 0 8) (pm_lt (pm_w I108 140 (0 : Int32).toNatClampNeg x1) (fun I113 => pm_gd (pm_in 1 8) (pm_lt (pm_w I113 140 (1 : Int32).toNatClampNeg x2) (fun I115 => pm_gd (pm_in 2 8) (pm_lt (pm_w I115 140 (2 : Int32).toNatClampNeg x3) (fun I117 => pm_gd (pm_in 3 8) (pm_lt (pm_w I117 140 (3 : Int32).toNatClampNeg x4) (fun I119 => pm_gd (pm_in 4 8) (pm_lt (pm_w I119 140 (4 : Int32).toNatClampNeg 0) (fun I121 => pm_gd (pm_in 5 8) (pm_lt (pm_w I121 140 (5 : Int32).toNatClampNeg x5) (fun I123 => pm_gd (pm_in 6 8) (pm_lt (pm_w I123 140 (6 : Int32).toNatClampNeg 0) (fun I125 => pm_gd (pm_in 7 8) (pm_lt (pm_w I125 140 (7 : Int32).toNatClampNeg x6) (fun I127 => (f268 0 I127 J109).bind (fun (ov128, I129, J130) => some (ov128, I129, J130)))))))))))))))))) else some (0, I108, J109)))) else (f222 0 1 1 I1 J).bind (fun (ov81, I82, J83) => (if ov81 = true then pm_gd (pm_in 0 8) (pm_lt (pm_w I82 140 (0 : Int32).toNatClampNeg x1) (fun I87 => pm_gd (pm_in 1 8) (pm_lt (pm_w I87 140 (1 : Int32).toNatClampNeg x2) (fun I89 => pm_gd (pm_in 2 8) (pm_lt (pm_w I89 140 (2 : Int32).toNatClampNeg x3) (fun I91 => pm_gd (pm_in 3 8) (pm_lt (pm_w I91 140 (3 : Int32).toNatClampNeg x4) (fun I93 => pm_gd (pm_in 4 8) (pm_lt (pm_w I93 140 (4 : Int32).toNatClampNeg 0) (fun I95 => pm_gd (pm_in 5 8) (pm_lt (pm_w I95 140 (5 : Int32).toNatClampNeg x5) (fun I97 => pm_gd (pm_in 6 8) (pm_lt (pm_w I97 140 (6 : Int32).toNatClampNeg 0) (fun I99 => pm_gd (pm_in 7 8) (pm_lt (pm_w I99 140 (7 : Int32).toNatClampNeg x6) (fun I101 => (f268 0 I101 J83).bind (fun (ov102, I103, J104) => some (ov102, I103, J104)))))))))))))))))) else some (0, I82, J83)))) else (f222 0 1 1 I1 J).bind (fun (ov55, I56, J57) => (if ov55 = true then pm_gd (pm_in 0 8) (pm_lt (pm_w I56 140 (0 : Int32).toNatClampNeg x1) (fun I61 => pm_gd (pm_in 1 8) (pm_lt (pm_w I61 140 (1 : Int32).toNatClampNeg x2) (fun I63 => pm_gd (pm_in 2 8) (pm_lt (pm_w I63 140 (2 : Int32).toNatClampNeg x3) (fun I65 => pm_gd (pm_in 3 8) (pm_lt (pm_w I65 140 (3 : Int32).toNatClampNeg x4) (fun I67 => pm_gd (pm_in 4 8) (pm_lt (pm_w I67 140 (4 : Int32).toNatClampNeg 0) (fun I69 => pm_gd (pm_in 5 8) (pm_lt (pm_w I69 140 (5 : Int32).toNatClampNeg x5) (fun I71 => pm_gd (pm_in 6 8) (pm_lt (pm_w I71 140 (6 : Int32).toNatClampNeg 0) (fun I73 => pm_gd (pm_in 7 8) (pm_lt (pm_w I73 140 (7 : Int32).toNatClampNeg x6) (fun I75 => (f268 0 I75 J57).bind (fun (ov76, I77, J78) => some (ov76, I77, J78)))))))))))))))))) else some (0, I56, J57)))) else (f222 0 1 1 I1 J).bind (fun (ov29, I30, J31) => (if ov29 = true then pm_gd (pm_in 0 8) (pm_lt (pm_w I30 140 (0 : Int32).toNatClampNeg x1) (fun I35 => pm_gd (pm_in 1 8) (pm_lt (pm_w I35 140 (1 : Int32).toNatClampNeg x2) (fun I37 => pm_gd (pm_in 2 8) (pm_lt (pm_w I37 140 (2 : Int32).toNatClampNeg x3) (fun I39 => pm_gd (pm_in 3 8) (pm_lt (pm_w I39 140 (3 : Int32).toNatClampNeg x4) (fun I41 => pm_gd (pm_in 4 8) (pm_lt (pm_w I41 140 (4 : Int32).toNatClampNeg 0) (fun I43 => pm_gd (pm_in 5 8) (pm_lt (pm_w I43 140 (5 : Int32).toNatClampNeg x5) (fun I45 => pm_gd (pm_in 6 8) (pm_lt (pm_w I45 140 (6 : Int32).toNatClampNeg 0) (fun I47 => pm_gd (pm_in 7 8) (pm_lt (pm_w I47 140 (7 : Int32).toNatClampNeg x6) (fun I49 => (f268 0 I49 J31).bind (fun (ov50, I51, J52) => some (ov50, I51, J52)))))))))))))))))) else some (0, I30, J31)))) else (f222 0 1 1 I1 J).bind (fun (ov3, I4, J5) => (if ov3 = true then pm_gd (pm_in 0 8) (pm_lt (pm_w I4 140 (0 : Int32).toNatClampNeg x1) (fun I9 => pm_gd (pm_in 1 8) (pm_lt (pm_w I9 140 (1 : Int32).toNatClampNeg x2) (fun I11 => pm_gd (pm_in 2 8) (pm_lt (pm_w I11 140 (2 : Int32).toNatClampNeg x3) (fun I13 => pm_gd (pm_in 3 8) (pm_lt (pm_w I13 140 (3 : Int32).toNatClampNeg x4) (fun I15 => pm_gd (pm_in 4 8) (pm_lt (pm_w I15 140 (4 : Int32).toNatClampNeg 0) (fun I17 => pm_gd (pm_in 5 8) (pm_lt (pm_w I17 140 (5 : Int32).toNatClampNeg x5) (fun I19 => pm_gd (pm_in 6 8) (pm_lt (pm_w I19 140 (6 : Int32).toNatClampNeg 0) (fun I21 => pm_gd (pm_in 7 8) (pm_lt (pm_w I21 140 (7 : Int32).toNatClampNeg x6) (fun I23 => (f268 0 I23 J5).bind (fun (ov24, I25, J26) => some (ov24, I25, J26)))))))))))))))))) else some (0, I4, J5)))))
theorem d282 {X : (Nat → Int32) × Nat} {d : Nat} {I : Nat → Nat → Int32} {J : Nat → Nat → Int64} {P : Nat → Nat → Value} {e r k r2 k2 : Nat} {x1 : Int32} {x2 : Int32} {x3 : Int32} {x4 : Int32} {x5 : Int32} {x6 : Int32} {q : Int32 × (Nat → Nat → Int32) × (Nat → Nat → Int64)} (hw : pm_W P r k r2 k2)  (h : f282 x1 x2 x3 x4 x5 x6 I J = some q) : pm_Fn X (d + 3) 282 1 [.ref 127, .int x1, .int x2, .int x3, .int x4, .int x5, .int x6] (I, J, P, pm_T0, e) (.inl (some (.int q.1))) (q.2.1, q.2.2, P, pm_T0, e) := by
  obtain ⟨hp, hw1, hw2, hw3, hw4, hw5, hw6, hw7, hw8, hw9, hw10, hw11⟩ := id hw
  have hwa := hw5.1
  have hwb := hw6.1
  have hwc := hw7.1
  have hwd := hw8.1
  unfold f282 at h
  refine fn_v rc282 (c := 12) (nf := 59) (by first | rfl | assumption) ml282 rfl rfl rfl rfl ?_
  refine al0 c282_0 ?_
  refine r_ic c282_1 kI0 ?_
  refine w_pi p282_2 (by first | rfl | assumption) rfl ?_
  rw [pm_lt_eq] at h
  generalize pm_w I 127 0 0 = I1 at h ⊢
  refine al0 c282_5 ?_
  refine il1 c282_6 ?_
  refine r_ic c282_7 kI1 ?_
  refine r_bi c282_8 kB9 ?_
  refine cv3 q282_10 (d241 hw rfl) rfl ?_
  refine r_ifeq (t := 72) c282_13 rfl (fun h2 => ?_) (fun h2 => ?_)
  · rw [if_neg (pm_bf h2)] at h
    refine r_ic c282_72 kI0 ?_
    refine r_ic c282_73 kI1 ?_
    refine r_ic c282_74 kI1 ?_
    obtain ⟨⟨ov3, I4, J5⟩, e6, h⟩ := pm_bd_sp h
    dsimp only at h
    refine cv4 q282_75 (v := .int (pm_bi ov3)) (μ1 := (I4, J5, P, pm_T0, e)) (d222 hw e6) rfl ?_
    refine r_ifne (t := 83) c282_78 rfl (fun h7 => ?_) (fun h7 => ?_)
    · rw [if_pos (pm_bt h7)] at h
      refine al0 c282_83 ?_
      refine r_gr g282_84 rfl rfl (hp _ _ _ rfl) ?_
      refine r_ic c282_87 kI0 ?_
      refine il1 c282_88 ?_
      obtain ⟨gd8, h⟩ := pm_gd_sp h
      refine w_ist c282_89 (by first | rfl | assumption) gd8 ?_
      rw [pm_lt_eq] at h
      generalize pm_w I4 140 (0 : Int32).toNatClampNeg x1 = I9 at h ⊢
      refine al0 c282_90 ?_
      refine r_gr g282_91 rfl rfl (hp _ _ _ rfl) ?_
      refine r_ic c282_94 kI1 ?_
      refine il2 c282_95 ?_
      obtain ⟨gd10, h⟩ := pm_gd_sp h
      refine w_ist c282_96 (by first | rfl | assumption) gd10 ?_
      rw [pm_lt_eq] at h
      generalize pm_w I9 140 (1 : Int32).toNatClampNeg x2 = I11 at h ⊢
      refine al0 c282_97 ?_
      refine r_gr g282_98 rfl rfl (hp _ _ _ rfl) ?_
      refine r_ic c282_101 kI2 ?_
      refine il3 c282_102 ?_
      obtain ⟨gd12, h⟩ := pm_gd_sp h
      refine w_ist c282_103 (by first | rfl | assumption) gd12 ?_
      rw [pm_lt_eq] at h
      generalize pm_w I11 140 (2 : Int32).toNatClampNeg x3 = I13 at h ⊢
      refine al0 c282_104 ?_
      refine r_gr g282_105 rfl rfl (hp _ _ _ rfl) ?_
      refine r_ic c282_108 kI3 ?_
      refine il4 c282_109 ?_
      obtain ⟨gd14, h⟩ := pm_gd_sp h
      refine w_ist c282_111 (by first | rfl | assumption) gd14 ?_
      rw [pm_lt_eq] at h
      generalize pm_w I13 140 (3 : Int32).toNatClampNeg x4 = I15 at h ⊢
      refine al0 c282_112 ?_
      refine r_gr g282_113 rfl rfl (hp _ _ _ rfl) ?_
      refine r_ic c282_116 kI4 ?_
      refine r_ic c282_117 kI0 ?_
      obtain ⟨gd16, h⟩ := pm_gd_sp h
      refine w_ist c282_118 (by first | rfl | assumption) gd16 ?_
      rw [pm_lt_eq] at h
      generalize pm_w I15 140 (4 : Int32).toNatClampNeg 0 = I17 at h ⊢
      refine al0 c282_119 ?_
      refine r_gr g282_120 rfl rfl (hp _ _ _ rfl) ?_
      refine r_ic c282_123 kI5 ?_
      refine il5 c282_124 ?_
      obtain ⟨gd18, h⟩ := pm_gd_sp h
      refine w_ist c282_126 (by first | rfl | assumption) gd18 ?_
      rw [pm_lt_eq] at h
      generalize pm_w I17 140 (5 : Int32).toNatClampNeg x5 = I19 at h ⊢
      refine al0 c282_127 ?_
      refine r_gr g282_128 rfl rfl (hp _ _ _ rfl) ?_
      refine r_bi c282_131 kB6 ?_
      refine r_ic c282_133 kI0 ?_
      obtain ⟨gd20, h⟩ := pm_gd_sp h
      refine w_ist c282_134 (by first | rfl | assumption) gd20 ?_
      rw [pm_lt_eq] at h
      generalize pm_w I19 140 (6 : Int32).toNatClampNeg 0 = I21 at h ⊢
      refine al0 c282_135 ?_
      refine r_gr g282_136 rfl rfl (hp _ _ _ rfl) ?_
      refine r_bi c282_139 kB7 ?_
      refine il6 c282_141 ?_
      obtain ⟨gd22, h⟩ := pm_gd_sp h
      refine w_ist c282_143 (by first | rfl | assumption) gd22 ?_
      rw [pm_lt_eq] at h
      generalize pm_w I21 140 (7 : Int32).toNatClampNeg x6 = I23 at h ⊢
      refine al0 c282_144 ?_
      refine r_ic c282_145 kI0 ?_
      obtain ⟨⟨ov24, I25, J26⟩, e27, h⟩ := pm_bd_sp h
      dsimp only at h
      refine cv2 q282_146 (v := .int ov24) (μ1 := (I25, J26, P, pm_T0, e)) (d268 hw e27) rfl ?_
      cases h
      exact r_ri c282_149 rt282 rfl rfl
    · rw [if_neg (pm_bf h7)] at h
      refine r_ic c282_81 kI0 ?_
      cases h
      exact r_ri c282_82 rt282 rfl rfl
  · rw [if_pos (pm_bt h2)] at h
    refine il2 c282_16 ?_
    refine r_ic c282_17 kI0 ?_
    refine r_bi c282_18 kB99 ?_
    refine cv3 q282_20 (d241 hw rfl) rfl ?_
    refine r_ifeq (t := 72) c282_23 rfl (fun h28 => ?_) (fun h28 => ?_)
    · rw [if_neg (pm_bf h28)] at h
      refine r_ic c282_72 kI0 ?_
      refine r_ic c282_73 kI1 ?_
      refine r_ic c282_74 kI1 ?_
      obtain ⟨⟨ov29, I30, J31⟩, e32, h⟩ := pm_bd_sp h
      dsimp only at h
      refine cv4 q282_75 (v := .int (pm_bi ov29)) (μ1 := (I30, J31, P, pm_T0, e)) (d222 hw e32) rfl ?_
      refine r_ifne (t := 83) c282_78 rfl (fun h33 => ?_) (fun h33 => ?_)
      · rw [if_pos (pm_bt h33)] at h
        refine al0 c282_83 ?_
        refine r_gr g282_84 rfl rfl (hp _ _ _ rfl) ?_
        refine r_ic c282_87 kI0 ?_
        refine il1 c282_88 ?_
        obtain ⟨gd34, h⟩ := pm_gd_sp h
        refine w_ist c282_89 (by first | rfl | assumption) gd34 ?_
        rw [pm_lt_eq] at h
        generalize pm_w I30 140 (0 : Int32).toNatClampNeg x1 = I35 at h ⊢
        refine al0 c282_90 ?_
        refine r_gr g282_91 rfl rfl (hp _ _ _ rfl) ?_
        refine r_ic c282_94 kI1 ?_
        refine il2 c282_95 ?_
        obtain ⟨gd36, h⟩ := pm_gd_sp h
        refine w_ist c282_96 (by first | rfl | assumption) gd36 ?_
        rw [pm_lt_eq] at h
        generalize pm_w I35 140 (1 : Int32).toNatClampNeg x2 = I37 at h ⊢
        refine al0 c282_97 ?_
        refine r_gr g282_98 rfl rfl (hp _ _ _ rfl) ?_
        refine r_ic c282_101 kI2 ?_
        refine il3 c282_102 ?_
        obtain ⟨gd38, h⟩ := pm_gd_sp h
        refine w_ist c282_103 (by first | rfl | assumption) gd38 ?_
        rw [pm_lt_eq] at h
        generalize pm_w I37 140 (2 : Int32).toNatClampNeg x3 = I39 at h ⊢
        refine al0 c282_104 ?_
        refine r_gr g282_105 rfl rfl (hp _ _ _ rfl) ?_
        refine r_ic c282_108 kI3 ?_
        refine il4 c282_109 ?_
        obtain ⟨gd40, h⟩ := pm_gd_sp h
        refine w_ist c282_111 (by first | rfl | assumption) gd40 ?_
        rw [pm_lt_eq] at h
        generalize pm_w I39 140 (3 : Int32).toNatClampNeg x4 = I41 at h ⊢
        refine al0 c282_112 ?_
        refine r_gr g282_113 rfl rfl (hp _ _ _ rfl) ?_
        refine r_ic c282_116 kI4 ?_
        refine r_ic c282_117 kI0 ?_
        obtain ⟨gd42, h⟩ := pm_gd_sp h
        refine w_ist c282_118 (by first | rfl | assumption) gd42 ?_
        rw [pm_lt_eq] at h
        generalize pm_w I41 140 (4 : Int32).toNatClampNeg 0 = I43 at h ⊢
        refine al0 c282_119 ?_
        refine r_gr g282_120 rfl rfl (hp _ _ _ rfl) ?_
        refine r_ic c282_123 kI5 ?_
        refine il5 c282_124 ?_
        obtain ⟨gd44, h⟩ := pm_gd_sp h
        refine w_ist c282_126 (by first | rfl | assumption) gd44 ?_
        rw [pm_lt_eq] at h
        generalize pm_w I43 140 (5 : Int32).toNatClampNeg x5 = I45 at h ⊢
        refine al0 c282_127 ?_
        refine r_gr g282_128 rfl rfl (hp _ _ _ rfl) ?_
        refine r_bi c282_131 kB6 ?_
        refine r_ic c282_133 kI0 ?_
        obtain ⟨gd46, h⟩ := pm_gd_sp h
        refine w_ist c282_134 (by first | rfl | assumption) gd46 ?_
        rw [pm_lt_eq] at h
        generalize pm_w I45 140 (6 : Int32).toNatClampNeg 0 = I47 at h ⊢
        refine al0 c282_135 ?_
        refine r_gr g282_136 rfl rfl (hp _ _ _ rfl) ?_
        refine r_bi c282_139 kB7 ?_
        refine il6 c282_141 ?_
        obtain ⟨gd48, h⟩ := pm_gd_sp h
        refine w_ist c282_143 (by first | rfl | assumption) gd48 ?_
        rw [pm_lt_eq] at h
        generalize pm_w I47 140 (7 : Int32).toNatClampNeg x6 = I49 at h ⊢
        refine al0 c282_144 ?_
        refine r_ic c282_145 kI0 ?_
        obtain ⟨⟨ov50, I51, J52⟩, e53, h⟩ := pm_bd_sp h
        dsimp only at h
        refine cv2 q282_146 (v := .int ov50) (μ1 := (I51, J52, P, pm_T0, e)) (d268 hw e53) rfl ?_
        cases h
        exact r_ri c282_149 rt282 rfl rfl
      · rw [if_neg (pm_bf h33)] at h
        refine r_ic c282_81 kI0 ?_
        cases h
        exact r_ri c282_82 rt282 rfl rfl
    · rw [if_pos (pm_bt h28)] at h
      refine il3 c282_26 ?_
      refine r_ic c282_27 kI0 ?_
      refine r_ic c282_28 kI5 ?_
      refine cv3 q282_29 (d241 hw rfl) rfl ?_
      refine r_ifeq (t := 72) c282_32 rfl (fun h54 => ?_) (fun h54 => ?_)
      · rw [if_neg (pm_bf h54)] at h
        refine r_ic c282_72 kI0 ?_
        refine r_ic c282_73 kI1 ?_
        refine r_ic c282_74 kI1 ?_
        obtain ⟨⟨ov55, I56, J57⟩, e58, h⟩ := pm_bd_sp h
        dsimp only at h
        refine cv4 q282_75 (v := .int (pm_bi ov55)) (μ1 := (I56, J57, P, pm_T0, e)) (d222 hw e58) rfl ?_
        refine r_ifne (t := 83) c282_78 rfl (fun h59 => ?_) (fun h59 => ?_)
        · rw [if_pos (pm_bt h59)] at h
          refine al0 c282_83 ?_
          refine r_gr g282_84 rfl rfl (hp _ _ _ rfl) ?_
          refine r_ic c282_87 kI0 ?_
          refine il1 c282_88 ?_
          obtain ⟨gd60, h⟩ := pm_gd_sp h
          refine w_ist c282_89 (by first | rfl | assumption) gd60 ?_
          rw [pm_lt_eq] at h
          generalize pm_w I56 140 (0 : Int32).toNatClampNeg x1 = I61 at h ⊢
          refine al0 c282_90 ?_
          refine r_gr g282_91 rfl rfl (hp _ _ _ rfl) ?_
          refine r_ic c282_94 kI1 ?_
          refine il2 c282_95 ?_
          obtain ⟨gd62, h⟩ := pm_gd_sp h
          refine w_ist c282_96 (by first | rfl | assumption) gd62 ?_
          rw [pm_lt_eq] at h
          generalize pm_w I61 140 (1 : Int32).toNatClampNeg x2 = I63 at h ⊢
          refine al0 c282_97 ?_
          refine r_gr g282_98 rfl rfl (hp _ _ _ rfl) ?_
          refine r_ic c282_101 kI2 ?_
          refine il3 c282_102 ?_
          obtain ⟨gd64, h⟩ := pm_gd_sp h
          refine w_ist c282_103 (by first | rfl | assumption) gd64 ?_
          rw [pm_lt_eq] at h
          generalize pm_w I63 140 (2 : Int32).toNatClampNeg x3 = I65 at h ⊢
          refine al0 c282_104 ?_
          refine r_gr g282_105 rfl rfl (hp _ _ _ rfl) ?_
          refine r_ic c282_108 kI3 ?_
          refine il4 c282_109 ?_
          obtain ⟨gd66, h⟩ := pm_gd_sp h
          refine w_ist c282_111 (by first | rfl | assumption) gd66 ?_
          rw [pm_lt_eq] at h
          generalize pm_w I65 140 (3 : Int32).toNatClampNeg x4 = I67 at h ⊢
          refine al0 c282_112 ?_
          refine r_gr g282_113 rfl rfl (hp _ _ _ rfl) ?_
          refine r_ic c282_116 kI4 ?_
          refine r_ic c282_117 kI0 ?_
          obtain ⟨gd68, h⟩ := pm_gd_sp h
          refine w_ist c282_118 (by first | rfl | assumption) gd68 ?_
          rw [pm_lt_eq] at h
          generalize pm_w I67 140 (4 : Int32).toNatClampNeg 0 = I69 at h ⊢
          refine al0 c282_119 ?_
          refine r_gr g282_120 rfl rfl (hp _ _ _ rfl) ?_
          refine r_ic c282_123 kI5 ?_
          refine il5 c282_124 ?_
          obtain ⟨gd70, h⟩ := pm_gd_sp h
          refine w_ist c282_126 (by first | rfl | assumption) gd70 ?_
          rw [pm_lt_eq] at h
          generalize pm_w I69 140 (5 : Int32).toNatClampNeg x5 = I71 at h ⊢
          refine al0 c282_127 ?_
          refine r_gr g282_128 rfl rfl (hp _ _ _ rfl) ?_
          refine r_bi c282_131 kB6 ?_
          refine r_ic c282_133 kI0 ?_
          obtain ⟨gd72, h⟩ := pm_gd_sp h
          refine w_ist c282_134 (by first | rfl | assumption) gd72 ?_
          rw [pm_lt_eq] at h
          generalize pm_w I71 140 (6 : Int32).toNatClampNeg 0 = I73 at h ⊢
          refine al0 c282_135 ?_
          refine r_gr g282_136 rfl rfl (hp _ _ _ rfl) ?_
          refine r_bi c282_139 kB7 ?_
          refine il6 c282_141 ?_
          obtain ⟨gd74, h⟩ := pm_gd_sp h
          refine w_ist c282_143 (by first | rfl | assumption) gd74 ?_
          rw [pm_lt_eq] at h
          generalize pm_w I73 140 (7 : Int32).toNatClampNeg x6 = I75 at h ⊢
          refine al0 c282_144 ?_
          refine r_ic c282_145 kI0 ?_
          obtain ⟨⟨ov76, I77, J78⟩, e79, h⟩ := pm_bd_sp h
          dsimp only at h
          refine cv2 q282_146 (v := .int ov76) (μ1 := (I77, J78, P, pm_T0, e)) (d268 hw e79) rfl ?_
          cases h
          exact r_ri c282_149 rt282 rfl rfl
        · rw [if_neg (pm_bf h59)] at h
          refine r_ic c282_81 kI0 ?_
          cases h
          exact r_ri c282_82 rt282 rfl rfl
      · rw [if_pos (pm_bt h54)] at h
        refine il4 c282_35 ?_
        refine r_ic c282_37 kI0 ?_
        refine r_bi c282_38 kB99 ?_
        refine cv3 q282_40 (d241 hw rfl) rfl ?_
        refine r_ifeq (t := 72) c282_43 rfl (fun h80 => ?_) (fun h80 => ?_)
        · rw [if_neg (pm_bf h80)] at h
          refine r_ic c282_72 kI0 ?_
          refine r_ic c282_73 kI1 ?_
          refine r_ic c282_74 kI1 ?_
          obtain ⟨⟨ov81, I82, J83⟩, e84, h⟩ := pm_bd_sp h
          dsimp only at h
          refine cv4 q282_75 (v := .int (pm_bi ov81)) (μ1 := (I82, J83, P, pm_T0, e)) (d222 hw e84) rfl ?_
          refine r_ifne (t := 83) c282_78 rfl (fun h85 => ?_) (fun h85 => ?_)
          · rw [if_pos (pm_bt h85)] at h
            refine al0 c282_83 ?_
            refine r_gr g282_84 rfl rfl (hp _ _ _ rfl) ?_
            refine r_ic c282_87 kI0 ?_
            refine il1 c282_88 ?_
            obtain ⟨gd86, h⟩ := pm_gd_sp h
            refine w_ist c282_89 (by first | rfl | assumption) gd86 ?_
            rw [pm_lt_eq] at h
            generalize pm_w I82 140 (0 : Int32).toNatClampNeg x1 = I87 at h ⊢
            refine al0 c282_90 ?_
            refine r_gr g282_91 rfl rfl (hp _ _ _ rfl) ?_
            refine r_ic c282_94 kI1 ?_
            refine il2 c282_95 ?_
            obtain ⟨gd88, h⟩ := pm_gd_sp h
            refine w_ist c282_96 (by first | rfl | assumption) gd88 ?_
            rw [pm_lt_eq] at h
            generalize pm_w I87 140 (1 : Int32).toNatClampNeg x2 = I89 at h ⊢
            refine al0 c282_97 ?_
            refine r_gr g282_98 rfl rfl (hp _ _ _ rfl) ?_
            refine r_ic c282_101 kI2 ?_
            refine il3 c282_102 ?_
            obtain ⟨gd90, h⟩ := pm_gd_sp h
            refine w_ist c282_103 (by first | rfl | assumption) gd90 ?_
            rw [pm_lt_eq] at h
            generalize pm_w I89 140 (2 : Int32).toNatClampNeg x3 = I91 at h ⊢
            refine al0 c282_104 ?_
            refine r_gr g282_105 rfl rfl (hp _ _ _ rfl) ?_
            refine r_ic c282_108 kI3 ?_
            refine il4 c282_109 ?_
            obtain ⟨gd92, h⟩ := pm_gd_sp h
            refine w_ist c282_111 (by first | rfl | assumption) gd92 ?_
            rw [pm_lt_eq] at h
            generalize pm_w I91 140 (3 : Int32).toNatClampNeg x4 = I93 at h ⊢
            refine al0 c282_112 ?_
            refine r_gr g282_113 rfl rfl (hp _ _ _ rfl) ?_
            refine r_ic c282_116 kI4 ?_
            refine r_ic c282_117 kI0 ?_
            obtain ⟨gd94, h⟩ := pm_gd_sp h
            refine w_ist c282_118 (by first | rfl | assumption) gd94 ?_
            rw [pm_lt_eq] at h
            generalize pm_w I93 140 (4 : Int32).toNatClampNeg 0 = I95 at h ⊢
            refine al0 c282_119 ?_
            refine r_gr g282_120 rfl rfl (hp _ _ _ rfl) ?_
            refine r_ic c282_123 kI5 ?_
            refine il5 c282_124 ?_
            obtain ⟨gd96, h⟩ := pm_gd_sp h
            refine w_ist c282_126 (by first | rfl | assumption) gd96 ?_
            rw [pm_lt_eq] at h
            generalize pm_w I95 140 (5 : Int32).toNatClampNeg x5 = I97 at h ⊢
            refine al0 c282_127 ?_
            refine r_gr g282_128 rfl rfl (hp _ _ _ rfl) ?_
            refine r_bi c282_131 kB6 ?_
            refine r_ic c282_133 kI0 ?_
            obtain ⟨gd98, h⟩ := pm_gd_sp h
            refine w_ist c282_134 (by first | rfl | assumption) gd98 ?_
            rw [pm_lt_eq] at h
            generalize pm_w I97 140 (6 : Int32).toNatClampNeg 0 = I99 at h ⊢
            refine al0 c282_135 ?_
            refine r_gr g282_136 rfl rfl (hp _ _ _ rfl) ?_
            refine r_bi c282_139 kB7 ?_
            refine il6 c282_141 ?_
            obtain ⟨gd100, h⟩ := pm_gd_sp h
            refine w_ist c282_143 (by first | rfl | assumption) gd100 ?_
            rw [pm_lt_eq] at h
            generalize pm_w I99 140 (7 : Int32).toNatClampNeg x6 = I101 at h ⊢
            refine al0 c282_144 ?_
            refine r_ic c282_145 kI0 ?_
            obtain ⟨⟨ov102, I103, J104⟩, e105, h⟩ := pm_bd_sp h
            dsimp only at h
            refine cv2 q282_146 (v := .int ov102) (μ1 := (I103, J104, P, pm_T0, e)) (d268 hw e105) rfl ?_
            cases h
            exact r_ri c282_149 rt282 rfl rfl
          · rw [if_neg (pm_bf h85)] at h
            refine r_ic c282_81 kI0 ?_
            cases h
            exact r_ri c282_82 rt282 rfl rfl
        · rw [if_pos (pm_bt h80)] at h
          refine il5 c282_46 ?_
          refine r_ic c282_48 kI0 ?_
          refine r_ic c282_49 kI1 ?_
          refine cv3 q282_50 (d241 hw rfl) rfl ?_
          refine r_ifeq (t := 72) c282_53 rfl (fun h106 => ?_) (fun h106 => ?_)
          · rw [if_neg (pm_bf h106)] at h
            refine r_ic c282_72 kI0 ?_
            refine r_ic c282_73 kI1 ?_
            refine r_ic c282_74 kI1 ?_
            obtain ⟨⟨ov107, I108, J109⟩, e110, h⟩ := pm_bd_sp h
            dsimp only at h
            refine cv4 q282_75 (v := .int (pm_bi ov107)) (μ1 := (I108, J109, P, pm_T0, e)) (d222 hw e110) rfl ?_
            refine r_ifne (t := 83) c282_78 rfl (fun h111 => ?_) (fun h111 => ?_)
            · rw [if_pos (pm_bt h111)] at h
              refine al0 c282_83 ?_
              refine r_gr g282_84 rfl rfl (hp _ _ _ rfl) ?_
              refine r_ic c282_87 kI0 ?_
              refine il1 c282_88 ?_
              obtain ⟨gd112, h⟩ := pm_gd_sp h
              refine w_ist c282_89 (by first | rfl | assumption) gd112 ?_
              rw [pm_lt_eq] at h
              generalize pm_w I108 140 (0 : Int32).toNatClampNeg x1 = I113 at h ⊢
              refine al0 c282_90 ?_
              refine r_gr g282_91 rfl rfl (hp _ _ _ rfl) ?_
              refine r_ic c282_94 kI1 ?_
              refine il2 c282_95 ?_
              obtain ⟨gd114, h⟩ := pm_gd_sp h
              refine w_ist c282_96 (by first | rfl | assumption) gd114 ?_
              rw [pm_lt_eq] at h
              generalize pm_w I113 140 (1 : Int32).toNatClampNeg x2 = I115 at h ⊢
              refine al0 c282_97 ?_
              refine r_gr g282_98 rfl rfl (hp _ _ _ rfl) ?_
              refine r_ic c282_101 kI2 ?_
              refine il3 c282_102 ?_
              obtain ⟨gd116, h⟩ := pm_gd_sp h
              refine w_ist c282_103 (by first | rfl | assumption) gd116 ?_
              rw [pm_lt_eq] at h
              generalize pm_w I115 140 (2 : Int32).toNatClampNeg x3 = I117 at h ⊢
              refine al0 c282_104 ?_
              refine r_gr g282_105 rfl rfl (hp _ _ _ rfl) ?_
              refine r_ic c282_108 kI3 ?_
              refine il4 c282_109 ?_
              obtain ⟨gd118, h⟩ := pm_gd_sp h
              refine w_ist c282_111 (by first | rfl | assumption) gd118 ?_
              rw [pm_lt_eq] at h
              generalize pm_w I117 140 (3 : Int32).toNatClampNeg x4 = I119 at h ⊢
              refine al0 c282_112 ?_
              refine r_gr g282_113 rfl rfl (hp _ _ _ rfl) ?_
              refine r_ic c282_116 kI4 ?_
              refine r_ic c282_117 kI0 ?_
              obtain ⟨gd120, h⟩ := pm_gd_sp h
              refine w_ist c282_118 (by first | rfl | assumption) gd120 ?_
              rw [pm_lt_eq] at h
              generalize pm_w I119 140 (4 : Int32).toNatClampNeg 0 = I121 at h ⊢
              refine al0 c282_119 ?_
              refine r_gr g282_120 rfl rfl (hp _ _ _ rfl) ?_
              refine r_ic c282_123 kI5 ?_
              refine il5 c282_124 ?_
              obtain ⟨gd122, h⟩ := pm_gd_sp h
              refine w_ist c282_126 (by first | rfl | assumption) gd122 ?_
              rw [pm_lt_eq] at h
              generalize pm_w I121 140 (5 : Int32).toNatClampNeg x5 = I123 at h ⊢
              refine al0 c282_127 ?_
              refine r_gr g282_128 rfl rfl (hp _ _ _ rfl) ?_
              refine r_bi c282_131 kB6 ?_
              refine r_ic c282_133 kI0 ?_
              obtain ⟨gd124, h⟩ := pm_gd_sp h
              refine w_ist c282_134 (by first | rfl | assumption) gd124 ?_
              rw [pm_lt_eq] at h
              generalize pm_w I123 140 (6 : Int32).toNatClampNeg 0 = I125 at h ⊢
              refine al0 c282_135 ?_
              refine r_gr g282_136 rfl rfl (hp _ _ _ rfl) ?_
              refine r_bi c282_139 kB7 ?_
              refine il6 c282_141 ?_
              obtain ⟨gd126, h⟩ := pm_gd_sp h
              refine w_ist c282_143 (by first | rfl | assumption) gd126 ?_
              rw [pm_lt_eq] at h
              generalize pm_w I125 140 (7 : Int32).toNatClampNeg x6 = I127 at h ⊢
              refine al0 c282_144 ?_
              refine r_ic c282_145 kI0 ?_
              obtain ⟨⟨ov128, I129, J130⟩, e131, h⟩ := pm_bd_sp h
              dsimp only at h
              refine cv2 q282_146 (v := .int ov128) (μ1 := (I129, J130, P, pm_T0, e)) (d268 hw e131) rfl ?_
              cases h
              exact r_ri c282_149 rt282 rfl rfl
            · rw [if_neg (pm_bf h111)] at h
              refine r_ic c282_81 kI0 ?_
              cases h
              exact r_ri c282_82 rt282 rfl rfl
          · rw [if_pos (pm_bt h106)] at h
            refine il6 c282_56 ?_
            refine r_ic c282_58 kI0 ?_
            refine r_si c282_59 kS900 ?_
            refine cv3 q282_62 (d241 hw rfl) rfl ?_
            refine r_ifeq (t := 72) c282_65 rfl (fun h132 => ?_) (fun h132 => ?_)
            · rw [if_neg (pm_bf h132)] at h
              refine r_ic c282_72 kI0 ?_
              refine r_ic c282_73 kI1 ?_
              refine r_ic c282_74 kI1 ?_
              obtain ⟨⟨ov133, I134, J135⟩, e136, h⟩ := pm_bd_sp h
              dsimp only at h
              refine cv4 q282_75 (v := .int (pm_bi ov133)) (μ1 := (I134, J135, P, pm_T0, e)) (d222 hw e136) rfl ?_
              refine r_ifne (t := 83) c282_78 rfl (fun h137 => ?_) (fun h137 => ?_)
              · rw [if_pos (pm_bt h137)] at h
                refine al0 c282_83 ?_
                refine r_gr g282_84 rfl rfl (hp _ _ _ rfl) ?_
                refine r_ic c282_87 kI0 ?_
                refine il1 c282_88 ?_
                obtain ⟨gd138, h⟩ := pm_gd_sp h
                refine w_ist c282_89 (by first | rfl | assumption) gd138 ?_
                rw [pm_lt_eq] at h
                generalize pm_w I134 140 (0 : Int32).toNatClampNeg x1 = I139 at h ⊢
                refine al0 c282_90 ?_
                refine r_gr g282_91 rfl rfl (hp _ _ _ rfl) ?_
                refine r_ic c282_94 kI1 ?_
                refine il2 c282_95 ?_
                obtain ⟨gd140, h⟩ := pm_gd_sp h
                refine w_ist c282_96 (by first | rfl | assumption) gd140 ?_
                rw [pm_lt_eq] at h
                generalize pm_w I139 140 (1 : Int32).toNatClampNeg x2 = I141 at h ⊢
                refine al0 c282_97 ?_
                refine r_gr g282_98 rfl rfl (hp _ _ _ rfl) ?_
                refine r_ic c282_101 kI2 ?_
                refine il3 c282_102 ?_
                obtain ⟨gd142, h⟩ := pm_gd_sp h
                refine w_ist c282_103 (by first | rfl | assumption) gd142 ?_
                rw [pm_lt_eq] at h
                generalize pm_w I141 140 (2 : Int32).toNatClampNeg x3 = I143 at h ⊢
                refine al0 c282_104 ?_
                refine r_gr g282_105 rfl rfl (hp _ _ _ rfl) ?_
                refine r_ic c282_108 kI3 ?_
                refine il4 c282_109 ?_
                obtain ⟨gd144, h⟩ := pm_gd_sp h
                refine w_ist c282_111 (by first | rfl | assumption) gd144 ?_
                rw [pm_lt_eq] at h
                generalize pm_w I143 140 (3 : Int32).toNatClampNeg x4 = I145 at h ⊢
                refine al0 c282_112 ?_
                refine r_gr g282_113 rfl rfl (hp _ _ _ rfl) ?_
                refine r_ic c282_116 kI4 ?_
                refine r_ic c282_117 kI0 ?_
                obtain ⟨gd146, h⟩ := pm_gd_sp h
                refine w_ist c282_118 (by first | rfl | assumption) gd146 ?_
                rw [pm_lt_eq] at h
                generalize pm_w I145 140 (4 : Int32).toNatClampNeg 0 = I147 at h ⊢
                refine al0 c282_119 ?_
                refine r_gr g282_120 rfl rfl (hp _ _ _ rfl) ?_
                refine r_ic c282_123 kI5 ?_
                refine il5 c282_124 ?_
                obtain ⟨gd148, h⟩ := pm_gd_sp h
                refine w_ist c282_126 (by first | rfl | assumption) gd148 ?_
                rw [pm_lt_eq] at h
                generalize pm_w I147 140 (5 : Int32).toNatClampNeg x5 = I149 at h ⊢
                refine al0 c282_127 ?_
                refine r_gr g282_128 rfl rfl (hp _ _ _ rfl) ?_
                refine r_bi c282_131 kB6 ?_
                refine r_ic c282_133 kI0 ?_
                obtain ⟨gd150, h⟩ := pm_gd_sp h
                refine w_ist c282_134 (by first | rfl | assumption) gd150 ?_
                rw [pm_lt_eq] at h
                generalize pm_w I149 140 (6 : Int32).toNatClampNeg 0 = I151 at h ⊢
                refine al0 c282_135 ?_
                refine r_gr g282_136 rfl rfl (hp _ _ _ rfl) ?_
                refine r_bi c282_139 kB7 ?_
                refine il6 c282_141 ?_
                obtain ⟨gd152, h⟩ := pm_gd_sp h
                refine w_ist c282_143 (by first | rfl | assumption) gd152 ?_
                rw [pm_lt_eq] at h
                generalize pm_w I151 140 (7 : Int32).toNatClampNeg x6 = I153 at h ⊢
                refine al0 c282_144 ?_
                refine r_ic c282_145 kI0 ?_
                obtain ⟨⟨ov154, I155, J156⟩, e157, h⟩ := pm_bd_sp h
                dsimp only at h
                refine cv2 q282_146 (v := .int ov154) (μ1 := (I155, J156, P, pm_T0, e)) (d268 hw e157) rfl ?_
                cases h
                exact r_ri c282_149 rt282 rfl rfl
              · rw [if_neg (pm_bf h137)] at h
                refine r_ic c282_81 kI0 ?_
                cases h
                exact r_ri c282_82 rt282 rfl rfl
            · rw [if_pos (pm_bt h132)] at h
              refine r_ic c282_68 kI1 ?_
              refine r_go (t := 73) c282_69 rfl ?_
              refine r_ic c282_73 kI1 ?_
              refine r_ic c282_74 kI1 ?_
              obtain ⟨⟨ov158, I159, J160⟩, e161, h⟩ := pm_bd_sp h
              dsimp only at h
              refine cv4 q282_75 (v := .int (pm_bi ov158)) (μ1 := (I159, J160, P, pm_T0, e)) (d222 hw e161) rfl ?_
              refine r_ifne (t := 83) c282_78 rfl (fun h162 => ?_) (fun h162 => ?_)
              · rw [if_pos (pm_bt h162)] at h
                refine al0 c282_83 ?_
                refine r_gr g282_84 rfl rfl (hp _ _ _ rfl) ?_
                refine r_ic c282_87 kI0 ?_
                refine il1 c282_88 ?_
                obtain ⟨gd163, h⟩ := pm_gd_sp h
                refine w_ist c282_89 (by first | rfl | assumption) gd163 ?_
                rw [pm_lt_eq] at h
                generalize pm_w I159 140 (0 : Int32).toNatClampNeg x1 = I164 at h ⊢
                refine al0 c282_90 ?_
                refine r_gr g282_91 rfl rfl (hp _ _ _ rfl) ?_
                refine r_ic c282_94 kI1 ?_
                refine il2 c282_95 ?_
                obtain ⟨gd165, h⟩ := pm_gd_sp h
                refine w_ist c282_96 (by first | rfl | assumption) gd165 ?_
                rw [pm_lt_eq] at h
                generalize pm_w I164 140 (1 : Int32).toNatClampNeg x2 = I166 at h ⊢
                refine al0 c282_97 ?_
                refine r_gr g282_98 rfl rfl (hp _ _ _ rfl) ?_
                refine r_ic c282_101 kI2 ?_
                refine il3 c282_102 ?_
                obtain ⟨gd167, h⟩ := pm_gd_sp h
                refine w_ist c282_103 (by first | rfl | assumption) gd167 ?_
                rw [pm_lt_eq] at h
                generalize pm_w I166 140 (2 : Int32).toNatClampNeg x3 = I168 at h ⊢
                refine al0 c282_104 ?_
                refine r_gr g282_105 rfl rfl (hp _ _ _ rfl) ?_
                refine r_ic c282_108 kI3 ?_
                refine il4 c282_109 ?_
                obtain ⟨gd169, h⟩ := pm_gd_sp h
                refine w_ist c282_111 (by first | rfl | assumption) gd169 ?_
                rw [pm_lt_eq] at h
                generalize pm_w I168 140 (3 : Int32).toNatClampNeg x4 = I170 at h ⊢
                refine al0 c282_112 ?_
                refine r_gr g282_113 rfl rfl (hp _ _ _ rfl) ?_
                refine r_ic c282_116 kI4 ?_
                refine r_ic c282_117 kI0 ?_
                obtain ⟨gd171, h⟩ := pm_gd_sp h
                refine w_ist c282_118 (by first | rfl | assumption) gd171 ?_
                rw [pm_lt_eq] at h
                generalize pm_w I170 140 (4 : Int32).toNatClampNeg 0 = I172 at h ⊢
                refine al0 c282_119 ?_
                refine r_gr g282_120 rfl rfl (hp _ _ _ rfl) ?_
                refine r_ic c282_123 kI5 ?_
                refine il5 c282_124 ?_
                obtain ⟨gd173, h⟩ := pm_gd_sp h
                refine w_ist c282_126 (by first | rfl | assumption) gd173 ?_
                rw [pm_lt_eq] at h
                generalize pm_w I172 140 (5 : Int32).toNatClampNeg x5 = I174 at h ⊢
                refine al0 c282_127 ?_
                refine r_gr g282_128 rfl rfl (hp _ _ _ rfl) ?_
                refine r_bi c282_131 kB6 ?_
                refine r_ic c282_133 kI0 ?_
                obtain ⟨gd175, h⟩ := pm_gd_sp h
                refine w_ist c282_134 (by first | rfl | assumption) gd175 ?_
                rw [pm_lt_eq] at h
                generalize pm_w I174 140 (6 : Int32).toNatClampNeg 0 = I176 at h ⊢
                refine al0 c282_135 ?_
                refine r_gr g282_136 rfl rfl (hp _ _ _ rfl) ?_
                refine r_bi c282_139 kB7 ?_
                refine il6 c282_141 ?_
                obtain ⟨gd177, h⟩ := pm_gd_sp h
                refine w_ist c282_143 (by first | rfl | assumption) gd177 ?_
                rw [pm_lt_eq] at h
                generalize pm_w I176 140 (7 : Int32).toNatClampNeg x6 = I178 at h ⊢
                refine al0 c282_144 ?_
                refine r_ic c282_145 kI0 ?_
                obtain ⟨⟨ov179, I180, J181⟩, e182, h⟩ := pm_bd_sp h
                dsimp only at h
                refine cv2 q282_146 (v := .int ov179) (μ1 := (I180, J181, P, pm_T0, e)) (d268 hw e182) rfl ?_
                cases h
                exact r_ri c282_149 rt282 rfl rfl
              · rw [if_neg (pm_bf h162)] at h
                refine r_ic c282_81 kI0 ?_
                cases h
                exact r_ri c282_82 rt282 rfl rfl
def f283_13  : Nat → Int32 → Int32 → (Nat → Nat → Int32) → (Nat → Nat → Int64) → Option (Int32 × (Nat → Nat → Int32) × (Nat → Nat → Int64))
  | 0, _, _, _, _ => none
  | fu + 1, y1, y2, I, J => (if y2.toInt < (I 127 18).toInt then pm_gd (pm_in (0 + y2) 66) ((if (I 144 (0 + y2).toNatClampNeg) = 2 then pm_gd (pm_in (16 + y2) 66) ((f264 y2 1 I J).bind (fun (ov5, I6, J7) => (if (I 144 (16 + y2).toNatClampNeg).toInt < ov5.toInt then f283_13 fu (y1 ||| 0) (y2 + 1) I6 J7 else f283_13 fu (y1 ||| ((1 : Int32) <<< (y2 &&& 31))) (y2 + 1) I6 J7))) else f283_13 fu (y1 ||| 0) (y2 + 1) I J)) else some (y1, I, J))
def f283  (I : Nat → Nat → Int32) (J : Nat → Nat → Int64) : Option (Int32 × (Nat → Nat → Int32) × (Nat → Nat → Int64)) := pm_lt (pm_w I 127 0 0) (fun I1 => (f253  I1 J).bind (fun (ov2, I3, J4) => f283_13 pm_FU 0 0 I3 J4))
theorem d283_13 {X : (Nat → Int32) × Nat} {d : Nat} {P : Nat → Nat → Value} {e r k r2 k2 : Nat}  (hw : pm_W P r k r2 k2)  : ∀ (fu : Nat) {y1 y2 : Int32} {I : Nat → Nat → Int32} {J : Nat → Nat → Int64} {q : Int32 × (Nat → Nat → Int32) × (Nat → Nat → Int64)} (h : f283_13 fu y1 y2 I J = some q), pm_Fx X (d + 5) 283 13 [.ref 127, .int y1, .int y2] [] (I, J, P, pm_T0, e) (.inl (some (.int q.1))) (q.2.1, q.2.2, P, pm_T0, e) := by
  obtain ⟨hp, hw1, hw2, hw3, hw4, hw5, hw6, hw7, hw8, hw9, hw10, hw11⟩ := id hw
  have hwa := hw5.1
  have hwb := hw6.1
  have hwc := hw7.1
  have hwd := hw8.1
  intro fu
  induction fu with
  | zero => intro y1 y2 I J q h; cases h
  | succ fu ih =>
    intro y1 y2 I J q h
    rw [f283_13] at h
    refine il2 c283_13 ?_
    refine al0 c283_14 ?_
    refine r_gi g283_15 (by first | rfl | assumption) rfl ?_
    refine r_icge (t := 67) c283_18 rfl (fun h1 => ?_) (fun h1 => ?_)
    · rw [if_neg (Int.not_lt.mpr h1)] at h
      refine il1 c283_67 ?_
      cases h
      exact r_ri c283_68 rt283 rfl rfl
    · rw [if_pos h1] at h
      refine il1 c283_21 ?_
      refine al0 c283_22 ?_
      refine r_gr g283_23 rfl rfl (hp _ _ _ rfl) ?_
      refine r_ic c283_26 kI0 ?_
      refine il2 c283_27 ?_
      refine r_iadd c283_28 ?_
      obtain ⟨gd2, h⟩ := pm_gd_sp h
      refine w_ia c283_29 (by first | rfl | assumption) gd2 ?_
      refine r_ic c283_30 kI2 ?_
      refine r_icne (t := 58) c283_31 rfl (fun h3 => ?_) (fun h3 => ?_)
      · rw [if_neg h3] at h
        refine r_ic c283_58 kI0 ?_
        refine r_ior c283_59 ?_
        refine is1 c283_60 rfl ?_
        refine ii2 c283_61 kI1 rfl ?_
        refine r_go (t := 13) c283_64 rfl ?_
        exact ih h
      · rw [if_pos h3] at h
        refine al0 c283_34 ?_
        refine r_gr g283_35 rfl rfl (hp _ _ _ rfl) ?_
        refine r_bi c283_38 kB16 ?_
        refine il2 c283_40 ?_
        refine r_iadd c283_41 ?_
        obtain ⟨gd4, h⟩ := pm_gd_sp h
        refine w_ia c283_42 (by first | rfl | assumption) gd4 ?_
        refine al0 c283_43 ?_
        refine il2 c283_44 ?_
        refine r_ic c283_45 kI1 ?_
        obtain ⟨⟨ov5, I6, J7⟩, e8, h⟩ := pm_bd_sp h
        dsimp only at h
        refine cv3 q283_46 (v := .int ov5) (μ1 := (I6, J7, P, pm_T0, e)) (d264 hw e8) rfl ?_
        refine r_iclt (t := 58) c283_49 rfl (fun h9 => ?_) (fun h9 => ?_)
        · rw [if_pos h9] at h
          refine r_ic c283_58 kI0 ?_
          refine r_ior c283_59 ?_
          refine is1 c283_60 rfl ?_
          refine ii2 c283_61 kI1 rfl ?_
          refine r_go (t := 13) c283_64 rfl ?_
          exact ih h
        · rw [if_neg (Int.not_lt.mpr h9)] at h
          refine r_ic c283_52 kI1 ?_
          refine il2 c283_53 ?_
          refine r_ishl c283_54 ?_
          refine r_go (t := 59) c283_55 rfl ?_
          refine r_ior c283_59 ?_
          refine is1 c283_60 rfl ?_
          refine ii2 c283_61 kI1 rfl ?_
          refine r_go (t := 13) c283_64 rfl ?_
          exact ih h
theorem d283 {X : (Nat → Int32) × Nat} {d : Nat} {I : Nat → Nat → Int32} {J : Nat → Nat → Int64} {P : Nat → Nat → Value} {e r k r2 k2 : Nat}  {q : Int32 × (Nat → Nat → Int32) × (Nat → Nat → Int64)} (hw : pm_W P r k r2 k2)  (h : f283  I J = some q) : pm_Fn X (d + 5) 283 1 [.ref 127] (I, J, P, pm_T0, e) (.inl (some (.int q.1))) (q.2.1, q.2.2, P, pm_T0, e) := by
  obtain ⟨hp, hw1, hw2, hw3, hw4, hw5, hw6, hw7, hw8, hw9, hw10, hw11⟩ := id hw
  have hwa := hw5.1
  have hwb := hw6.1
  have hwc := hw7.1
  have hwd := hw8.1
  unfold f283 at h
  refine fn_v rc283 (c := 12) (nf := 59) (by first | rfl | assumption) ml283 rfl rfl rfl rfl ?_
  refine al0 c283_0 ?_
  refine r_ic c283_1 kI0 ?_
  refine w_pi p283_2 (by first | rfl | assumption) rfl ?_
  rw [pm_lt_eq] at h
  generalize pm_w I 127 0 0 = I1 at h ⊢
  refine al0 c283_5 ?_
  obtain ⟨⟨ov2, I3, J4⟩, e5, h⟩ := pm_bd_sp h
  dsimp only at h
  refine cz1 q283_6 (μ1 := (I3, J4, P, pm_T0, e)) (d253 hw e5) rfl ?_
  refine r_ic c283_9 kI0 ?_
  refine is1 c283_10 rfl ?_
  refine r_ic c283_11 kI0 ?_
  refine is2 c283_12 rfl ?_
  exact d283_13 hw pm_FU h
def f285_25  : Nat → Int32 → Int32 → (Nat → Nat → Int32) → (Nat → Nat → Int64) → Option (Int32 × (Nat → Nat → Int32) × (Nat → Nat → Int64))
  | 0, _, _, _, _ => none
  | fu + 1, y1, y3, I, J => (if (600 : Int32).toInt < y3.toInt then some ((-1), I, J) else (f272  I J).bind (fun (ov2, I3, J4) => pm_gd (pm_in (0 + y1) 66) ((if (I3 144 (0 + y1).toNatClampNeg) = 3 then some (y3, I3, J4) else f285_25 fu y1 (y3 + 1) I3 J4))))
def f285 (x1 : Int32) (x2 : Int32) (I : Nat → Nat → Int32) (J : Nat → Nat → Int64) : Option (Int32 × (Nat → Nat → Int32) × (Nat → Nat → Int64)) := (f253  I J).bind (fun (ov1, I2, J3) => pm_lt (pm_w I2 127 40 x2) (fun I5 => pm_gd (pm_in (0 + x1) 66) ((if (I5 144 (0 + x1).toNatClampNeg) = 2 then f285_25 pm_FU x1 1 I5 J3 else some ((-1), I5, J3)))))
theorem d285_25 {X : (Nat → Int32) × Nat} {d : Nat} {P : Nat → Nat → Value} {e r k r2 k2 : Nat}  (hw : pm_W P r k r2 k2)  : ∀ (fu : Nat) {y1 y3 : Int32} {I : Nat → Nat → Int32} {J : Nat → Nat → Int64} {q : Int32 × (Nat → Nat → Int32) × (Nat → Nat → Int64)} {z2 : Value} (h : f285_25 fu y1 y3 I J = some q), pm_Fx X (d + 7) 285 25 [.ref 127, .int y1, z2, .int y3] [] (I, J, P, pm_T0, e) (.inl (some (.int q.1))) (q.2.1, q.2.2, P, pm_T0, e) := by
  obtain ⟨hp, hw1, hw2, hw3, hw4, hw5, hw6, hw7, hw8, hw9, hw10, hw11⟩ := id hw
  have hwa := hw5.1
  have hwb := hw6.1
  have hwc := hw7.1
  have hwd := hw8.1
  intro fu
  induction fu with
  | zero => intro y1 y3 I J q z2 h; cases h
  | succ fu ih =>
    intro y1 y3 I J q z2 h
    rw [f285_25] at h
    refine il3 c285_25 ?_
    refine r_si c285_26 kS600 ?_
    refine r_icgt (t := 56) c285_29 rfl (fun h1 => ?_) (fun h1 => ?_)
    · rw [if_pos h1] at h
      refine r_ic c285_56 kIm1 ?_
      cases h
      exact r_ri c285_57 rt285 rfl rfl
    · rw [if_neg (Int.not_lt.mpr h1)] at h
      refine al0 c285_32 ?_
      obtain ⟨⟨ov2, I3, J4⟩, e5, h⟩ := pm_bd_sp h
      dsimp only at h
      refine cz1 q285_33 (μ1 := (I3, J4, P, pm_T0, e)) (d272 hw e5) rfl ?_
      refine al0 c285_36 ?_
      refine r_gr g285_37 rfl rfl (hp _ _ _ rfl) ?_
      refine r_ic c285_40 kI0 ?_
      refine il1 c285_41 ?_
      refine r_iadd c285_42 ?_
      obtain ⟨gd6, h⟩ := pm_gd_sp h
      refine w_ia c285_43 (by first | rfl | assumption) gd6 ?_
      refine r_ic c285_44 kI3 ?_
      refine r_icne (t := 50) c285_45 rfl (fun h7 => ?_) (fun h7 => ?_)
      · rw [if_neg h7] at h
        refine ii3c c285_50 kI1 ?_
        refine r_go (t := 25) c285_53 rfl ?_
        exact ih h
      · rw [if_pos h7] at h
        refine il3 c285_48 ?_
        cases h
        exact r_ri c285_49 rt285 rfl rfl
theorem d285 {X : (Nat → Int32) × Nat} {d : Nat} {I : Nat → Nat → Int32} {J : Nat → Nat → Int64} {P : Nat → Nat → Value} {e r k r2 k2 : Nat} {x1 : Int32} {x2 : Int32} {q : Int32 × (Nat → Nat → Int32) × (Nat → Nat → Int64)} (hw : pm_W P r k r2 k2)  (h : f285 x1 x2 I J = some q) : pm_Fn X (d + 7) 285 1 [.ref 127, .int x1, .int x2] (I, J, P, pm_T0, e) (.inl (some (.int q.1))) (q.2.1, q.2.2, P, pm_T0, e) := by
  obtain ⟨hp, hw1, hw2, hw3, hw4, hw5, hw6, hw7, hw8, hw9, hw10, hw11⟩ := id hw
  have hwa := hw5.1
  have hwb := hw6.1
  have hwc := hw7.1
  have hwd := hw8.1
  unfold f285 at h
  refine fn_v rc285 (c := 12) (nf := 59) (by first | rfl | assumption) ml285 rfl rfl rfl rfl ?_
  refine al0 c285_0 ?_
  obtain ⟨⟨ov1, I2, J3⟩, e4, h⟩ := pm_bd_sp h
  dsimp only at h
  refine cz1 q285_1 (μ1 := (I2, J3, P, pm_T0, e)) (d253 hw e4) rfl ?_
  refine al0 c285_4 ?_
  refine il2 c285_5 ?_
  refine w_pi p285_6 (by first | rfl | assumption) rfl ?_
  rw [pm_lt_eq] at h
  generalize pm_w I2 127 40 x2 = I5 at h ⊢
  refine al0 c285_9 ?_
  refine r_gr g285_10 rfl rfl (hp _ _ _ rfl) ?_
  refine r_ic c285_13 kI0 ?_
  refine il1 c285_14 ?_
  refine r_iadd c285_15 ?_
  obtain ⟨gd6, h⟩ := pm_gd_sp h
  refine w_ia c285_16 (by first | rfl | assumption) gd6 ?_
  refine r_ic c285_17 kI2 ?_
  refine r_iceq (t := 23) c285_18 rfl (fun h7 => ?_) (fun h7 => ?_)
  · rw [if_pos h7] at h
    refine r_ic c285_23 kI1 ?_
    refine is3 c285_24 rfl ?_
    exact d285_25 hw pm_FU h
  · rw [if_neg h7] at h
    refine r_ic c285_21 kIm1 ?_
    cases h
    exact r_ri c285_22 rt285 rfl rfl
def f284 (x1 : Int32) (I : Nat → Nat → Int32) (J : Nat → Nat → Int64) : Option (Int32 × (Nat → Nat → Int32) × (Nat → Nat → Int64)) := pm_lt (pm_w I 127 0 0) (fun I1 => (f277 x1 1 I1 J).bind (fun (ov2, I3, J4) => (if ov2 = true then (f285 x1 0 I3 J4).bind (fun (ov7, I8, J9) => some (ov7, I8, J9)) else some (0, I3, J4))))
theorem d284 {X : (Nat → Int32) × Nat} {d : Nat} {I : Nat → Nat → Int32} {J : Nat → Nat → Int64} {P : Nat → Nat → Value} {e r k r2 k2 : Nat} {x1 : Int32} {q : Int32 × (Nat → Nat → Int32) × (Nat → Nat → Int64)} (hw : pm_W P r k r2 k2)  (h : f284 x1 I J = some q) : pm_Fn X (d + 8) 284 1 [.ref 127, .int x1] (I, J, P, pm_T0, e) (.inl (some (.int q.1))) (q.2.1, q.2.2, P, pm_T0, e) := by
  obtain ⟨hp, hw1, hw2, hw3, hw4, hw5, hw6, hw7, hw8, hw9, hw10, hw11⟩ := id hw
  have hwa := hw5.1
  have hwb := hw6.1
  have hwc := hw7.1
  have hwd := hw8.1
  unfold f284 at h
  refine fn_v rc284 (c := 12) (nf := 59) (by first | rfl | assumption) ml284 rfl rfl rfl rfl ?_
  refine al0 c284_0 ?_
  refine r_ic c284_1 kI0 ?_
  refine w_pi p284_2 (by first | rfl | assumption) rfl ?_
  rw [pm_lt_eq] at h
  generalize pm_w I 127 0 0 = I1 at h ⊢
  refine al0 c284_5 ?_
  refine il1 c284_6 ?_
  refine r_ic c284_7 kI1 ?_
  obtain ⟨⟨ov2, I3, J4⟩, e5, h⟩ := pm_bd_sp h
  dsimp only at h
  refine cv3 q284_8 (v := .int (pm_bi ov2)) (μ1 := (I3, J4, P, pm_T0, e)) (d277 hw e5) rfl ?_
  refine r_ifne (t := 16) c284_11 rfl (fun h6 => ?_) (fun h6 => ?_)
  · rw [if_pos (pm_bt h6)] at h
    refine al0 c284_16 ?_
    refine il1 c284_17 ?_
    refine r_ic c284_18 kI0 ?_
    obtain ⟨⟨ov7, I8, J9⟩, e10, h⟩ := pm_bd_sp h
    dsimp only at h
    refine cv3 q284_19 (v := .int ov7) (μ1 := (I8, J9, P, pm_T0, e)) (d285 hw e10) rfl ?_
    cases h
    exact r_ri c284_22 rt284 rfl rfl
  · rw [if_neg (pm_bf h6)] at h
    refine r_ic c284_14 kI0 ?_
    cases h
    exact r_ri c284_15 rt284 rfl rfl
def f286 (x1 : Int32) (I : Nat → Nat → Int32) (J : Nat → Nat → Int64) : Option (Int32 × (Nat → Nat → Int32) × (Nat → Nat → Int64)) := pm_lt (pm_w I 127 0 0) (fun I1 => (f277 x1 1 I1 J).bind (fun (ov2, I3, J4) => (if ov2 = true then (f285 x1 1 I3 J4).bind (fun (ov7, I8, J9) => some (ov7, I8, J9)) else some (0, I3, J4))))
theorem d286 {X : (Nat → Int32) × Nat} {d : Nat} {I : Nat → Nat → Int32} {J : Nat → Nat → Int64} {P : Nat → Nat → Value} {e r k r2 k2 : Nat} {x1 : Int32} {q : Int32 × (Nat → Nat → Int32) × (Nat → Nat → Int64)} (hw : pm_W P r k r2 k2)  (h : f286 x1 I J = some q) : pm_Fn X (d + 8) 286 1 [.ref 127, .int x1] (I, J, P, pm_T0, e) (.inl (some (.int q.1))) (q.2.1, q.2.2, P, pm_T0, e) := by
  obtain ⟨hp, hw1, hw2, hw3, hw4, hw5, hw6, hw7, hw8, hw9, hw10, hw11⟩ := id hw
  have hwa := hw5.1
  have hwb := hw6.1
  have hwc := hw7.1
  have hwd := hw8.1
  unfold f286 at h
  refine fn_v rc286 (c := 12) (nf := 59) (by first | rfl | assumption) ml286 rfl rfl rfl rfl ?_
  refine al0 c286_0 ?_
  refine r_ic c286_1 kI0 ?_
  refine w_pi p286_2 (by first | rfl | assumption) rfl ?_
  rw [pm_lt_eq] at h
  generalize pm_w I 127 0 0 = I1 at h ⊢
  refine al0 c286_5 ?_
  refine il1 c286_6 ?_
  refine r_ic c286_7 kI1 ?_
  obtain ⟨⟨ov2, I3, J4⟩, e5, h⟩ := pm_bd_sp h
  dsimp only at h
  refine cv3 q286_8 (v := .int (pm_bi ov2)) (μ1 := (I3, J4, P, pm_T0, e)) (d277 hw e5) rfl ?_
  refine r_ifne (t := 16) c286_11 rfl (fun h6 => ?_) (fun h6 => ?_)
  · rw [if_pos (pm_bt h6)] at h
    refine al0 c286_16 ?_
    refine il1 c286_17 ?_
    refine r_ic c286_18 kI1 ?_
    obtain ⟨⟨ov7, I8, J9⟩, e10, h⟩ := pm_bd_sp h
    dsimp only at h
    refine cv3 q286_19 (v := .int ov7) (μ1 := (I8, J9, P, pm_T0, e)) (d285 hw e10) rfl ?_
    cases h
    exact r_ri c286_22 rt286 rfl rfl
  · rw [if_neg (pm_bf h6)] at h
    refine r_ic c286_14 kI0 ?_
    cases h
    exact r_ri c286_15 rt286 rfl rfl
def f287_47  : Nat → Int32 → Int32 → Int32 → (Nat → Nat → Int32) → (Nat → Nat → Int64) → Option (Int32 × (Nat → Nat → Int32) × (Nat → Nat → Int64))
  | 0, _, _, _, _, _ => none
  | fu + 1, y1, y2, y3, I, J => (if y3.toInt < y1.toInt then (f272  I J).bind (fun (ov8, I9, J10) => f287_47 fu y1 y2 (y3 + 1) I9 J10) else (if y2 = 0 then (f257 3 I J).bind (fun (ov4, I5, J6) => some (ov4, I5, J6)) else (if y2 = 1 then some (I 127 42, I, J) else some (I 127 41, I, J))))
def f287 (x1 : Int32) (x2 : Int32) (I : Nat → Nat → Int32) (J : Nat → Nat → Int64) : Option (Int32 × (Nat → Nat → Int32) × (Nat → Nat → Int64)) := pm_lt (pm_w I 127 0 0) (fun I1 => (if (v241 x1 0 600 I1) = true then (if (v241 x2 0 2 I1) = true then (f222 1 1 1 I1 J).bind (fun (ov22, I23, J24) => (if ov22 = true then (f253  I23 J24).bind (fun (ov27, I28, J29) => f287_47 pm_FU x1 x2 0 I28 J29) else some (0, I23, J24))) else (f222 0 1 1 I1 J).bind (fun (ov13, I14, J15) => (if ov13 = true then (f253  I14 J15).bind (fun (ov18, I19, J20) => f287_47 pm_FU x1 x2 0 I19 J20) else some (0, I14, J15)))) else (f222 0 1 1 I1 J).bind (fun (ov3, I4, J5) => (if ov3 = true then (f253  I4 J5).bind (fun (ov8, I9, J10) => f287_47 pm_FU x1 x2 0 I9 J10) else some (0, I4, J5)))))
theorem d287_47 {X : (Nat → Int32) × Nat} {d : Nat} {P : Nat → Nat → Value} {e r k r2 k2 : Nat}  (hw : pm_W P r k r2 k2)  : ∀ (fu : Nat) {y1 y2 y3 : Int32} {I : Nat → Nat → Int32} {J : Nat → Nat → Int64} {q : Int32 × (Nat → Nat → Int32) × (Nat → Nat → Int64)} (h : f287_47 fu y1 y2 y3 I J = some q), pm_Fx X (d + 7) 287 47 [.ref 127, .int y1, .int y2, .int y3] [] (I, J, P, pm_T0, e) (.inl (some (.int q.1))) (q.2.1, q.2.2, P, pm_T0, e) := by
  obtain ⟨hp, hw1, hw2, hw3, hw4, hw5, hw6, hw7, hw8, hw9, hw10, hw11⟩ := id hw
  have hwa := hw5.1
  have hwb := hw6.1
  have hwc := hw7.1
  have hwd := hw8.1
  intro fu
  induction fu with
  | zero => intro y1 y2 y3 I J q h; cases h
  | succ fu ih =>
    intro y1 y2 y3 I J q h
    rw [f287_47] at h
    refine il3 c287_47 ?_
    refine il1 c287_48 ?_
    refine r_icge (t := 62) c287_49 rfl (fun h1 => ?_) (fun h1 => ?_)
    · rw [if_neg (Int.not_lt.mpr h1)] at h
      refine il2 c287_62 ?_
      refine r_ifne (t := 74) c287_63 rfl (fun h2 => ?_) (fun h2 => ?_)
      · rw [if_neg h2] at h
        refine il2 c287_74 ?_
        refine r_ic c287_75 kI1 ?_
        refine r_icne (t := 86) c287_76 rfl (fun h3 => ?_) (fun h3 => ?_)
        · rw [if_neg h3] at h
          refine al0 c287_86 ?_
          refine r_gi g287_87 (by first | rfl | assumption) rfl ?_
          cases h
          exact r_ri c287_90 rt287 rfl rfl
        · rw [if_pos h3] at h
          refine al0 c287_79 ?_
          refine r_gi g287_80 (by first | rfl | assumption) rfl ?_
          refine r_go (t := 90) c287_83 rfl ?_
          cases h
          exact r_ri c287_90 rt287 rfl rfl
      · rw [if_pos h2] at h
        refine al0 c287_66 ?_
        refine r_ic c287_67 kI3 ?_
        obtain ⟨⟨ov4, I5, J6⟩, e7, h⟩ := pm_bd_sp h
        dsimp only at h
        refine cv2 q287_68 (v := .int ov4) (μ1 := (I5, J6, P, pm_T0, e)) (d257 hw e7) rfl ?_
        refine r_go (t := 90) c287_71 rfl ?_
        cases h
        exact r_ri c287_90 rt287 rfl rfl
    · rw [if_pos h1] at h
      refine al0 c287_52 ?_
      obtain ⟨⟨ov8, I9, J10⟩, e11, h⟩ := pm_bd_sp h
      dsimp only at h
      refine cz1 q287_53 (μ1 := (I9, J10, P, pm_T0, e)) (d272 hw e11) rfl ?_
      refine ii3 c287_56 kI1 rfl ?_
      refine r_go (t := 47) c287_59 rfl ?_
      exact ih h
theorem d287 {X : (Nat → Int32) × Nat} {d : Nat} {I : Nat → Nat → Int32} {J : Nat → Nat → Int64} {P : Nat → Nat → Value} {e r k r2 k2 : Nat} {x1 : Int32} {x2 : Int32} {q : Int32 × (Nat → Nat → Int32) × (Nat → Nat → Int64)} (hw : pm_W P r k r2 k2)  (h : f287 x1 x2 I J = some q) : pm_Fn X (d + 7) 287 1 [.ref 127, .int x1, .int x2] (I, J, P, pm_T0, e) (.inl (some (.int q.1))) (q.2.1, q.2.2, P, pm_T0, e) := by
  obtain ⟨hp, hw1, hw2, hw3, hw4, hw5, hw6, hw7, hw8, hw9, hw10, hw11⟩ := id hw
  have hwa := hw5.1
  have hwb := hw6.1
  have hwc := hw7.1
  have hwd := hw8.1
  unfold f287 at h
  refine fn_v rc287 (c := 12) (nf := 59) (by first | rfl | assumption) ml287 rfl rfl rfl rfl ?_
  refine al0 c287_0 ?_
  refine r_ic c287_1 kI0 ?_
  refine w_pi p287_2 (by first | rfl | assumption) rfl ?_
  rw [pm_lt_eq] at h
  generalize pm_w I 127 0 0 = I1 at h ⊢
  refine al0 c287_5 ?_
  refine il1 c287_6 ?_
  refine r_ic c287_7 kI0 ?_
  refine r_si c287_8 kS600 ?_
  refine cv3 q287_11 (d241 hw rfl) rfl ?_
  refine r_ifeq (t := 30) c287_14 rfl (fun h2 => ?_) (fun h2 => ?_)
  · rw [if_neg (pm_bf h2)] at h
    refine r_ic c287_30 kI0 ?_
    refine r_ic c287_31 kI1 ?_
    refine r_ic c287_32 kI1 ?_
    obtain ⟨⟨ov3, I4, J5⟩, e6, h⟩ := pm_bd_sp h
    dsimp only at h
    refine cv4 q287_33 (v := .int (pm_bi ov3)) (μ1 := (I4, J5, P, pm_T0, e)) (d222 hw e6) rfl ?_
    refine r_ifne (t := 41) c287_36 rfl (fun h7 => ?_) (fun h7 => ?_)
    · rw [if_pos (pm_bt h7)] at h
      refine al0 c287_41 ?_
      obtain ⟨⟨ov8, I9, J10⟩, e11, h⟩ := pm_bd_sp h
      dsimp only at h
      refine cz1 q287_42 (μ1 := (I9, J10, P, pm_T0, e)) (d253 hw e11) rfl ?_
      refine r_ic c287_45 kI0 ?_
      refine is3 c287_46 rfl ?_
      exact d287_47 hw pm_FU h
    · rw [if_neg (pm_bf h7)] at h
      refine r_ic c287_39 kI0 ?_
      cases h
      exact r_ri c287_40 rt287 rfl rfl
  · rw [if_pos (pm_bt h2)] at h
    refine il2 c287_17 ?_
    refine r_ic c287_18 kI0 ?_
    refine r_ic c287_19 kI2 ?_
    refine cv3 q287_20 (d241 hw rfl) rfl ?_
    refine r_ifeq (t := 30) c287_23 rfl (fun h12 => ?_) (fun h12 => ?_)
    · rw [if_neg (pm_bf h12)] at h
      refine r_ic c287_30 kI0 ?_
      refine r_ic c287_31 kI1 ?_
      refine r_ic c287_32 kI1 ?_
      obtain ⟨⟨ov13, I14, J15⟩, e16, h⟩ := pm_bd_sp h
      dsimp only at h
      refine cv4 q287_33 (v := .int (pm_bi ov13)) (μ1 := (I14, J15, P, pm_T0, e)) (d222 hw e16) rfl ?_
      refine r_ifne (t := 41) c287_36 rfl (fun h17 => ?_) (fun h17 => ?_)
      · rw [if_pos (pm_bt h17)] at h
        refine al0 c287_41 ?_
        obtain ⟨⟨ov18, I19, J20⟩, e21, h⟩ := pm_bd_sp h
        dsimp only at h
        refine cz1 q287_42 (μ1 := (I19, J20, P, pm_T0, e)) (d253 hw e21) rfl ?_
        refine r_ic c287_45 kI0 ?_
        refine is3 c287_46 rfl ?_
        exact d287_47 hw pm_FU h
      · rw [if_neg (pm_bf h17)] at h
        refine r_ic c287_39 kI0 ?_
        cases h
        exact r_ri c287_40 rt287 rfl rfl
    · rw [if_pos (pm_bt h12)] at h
      refine r_ic c287_26 kI1 ?_
      refine r_go (t := 31) c287_27 rfl ?_
      refine r_ic c287_31 kI1 ?_
      refine r_ic c287_32 kI1 ?_
      obtain ⟨⟨ov22, I23, J24⟩, e25, h⟩ := pm_bd_sp h
      dsimp only at h
      refine cv4 q287_33 (v := .int (pm_bi ov22)) (μ1 := (I23, J24, P, pm_T0, e)) (d222 hw e25) rfl ?_
      refine r_ifne (t := 41) c287_36 rfl (fun h26 => ?_) (fun h26 => ?_)
      · rw [if_pos (pm_bt h26)] at h
        refine al0 c287_41 ?_
        obtain ⟨⟨ov27, I28, J29⟩, e30, h⟩ := pm_bd_sp h
        dsimp only at h
        refine cz1 q287_42 (μ1 := (I28, J29, P, pm_T0, e)) (d253 hw e30) rfl ?_
        refine r_ic c287_45 kI0 ?_
        refine is3 c287_46 rfl ?_
        exact d287_47 hw pm_FU h
      · rw [if_neg (pm_bf h26)] at h
        refine r_ic c287_39 kI0 ?_
        cases h
        exact r_ri c287_40 rt287 rfl rfl
def f289 (x1 : Int32) (x2 : Int32) (I : Nat → Nat → Int32) (J : Nat → Nat → Int64) : Option (Int32 × (Nat → Nat → Int32) × (Nat → Nat → Int64)) := pm_gd (pm_in ((3 * x1) + 1) 15) ((f263 x2 I J).bind (fun (ov2, I3, J4) => pm_gd (pm_in (3 * x1) 15) (pm_gd (pm_in ((4 * x2) + 1) 32) ((if (I3 133 (3 * x1).toNatClampNeg) = (I3 132 ((4 * x2) + 1).toNatClampNeg) then some (((I 133 ((3 * x1) + 1).toNatClampNeg) * ov2) / 52, I3, J4) else some ((((I 133 ((3 * x1) + 1).toNatClampNeg) * ov2) / 52) / 2, I3, J4))))))
theorem d289 {X : (Nat → Int32) × Nat} {d : Nat} {I : Nat → Nat → Int32} {J : Nat → Nat → Int64} {P : Nat → Nat → Value} {e r k r2 k2 : Nat} {x1 : Int32} {x2 : Int32} {q : Int32 × (Nat → Nat → Int32) × (Nat → Nat → Int64)} (hw : pm_W P r k r2 k2)  (h : f289 x1 x2 I J = some q) : pm_Fn X (d + 6) 289 1 [.ref 127, .int x1, .int x2] (I, J, P, pm_T0, e) (.inl (some (.int q.1))) (q.2.1, q.2.2, P, pm_T0, e) := by
  obtain ⟨hp, hw1, hw2, hw3, hw4, hw5, hw6, hw7, hw8, hw9, hw10, hw11⟩ := id hw
  have hwa := hw5.1
  have hwb := hw6.1
  have hwc := hw7.1
  have hwd := hw8.1
  unfold f289 at h
  refine fn_v rc289 (c := 12) (nf := 59) (by first | rfl | assumption) ml289 rfl rfl rfl rfl ?_
  refine al0 c289_0 ?_
  refine r_gr g289_1 rfl rfl (hp _ _ _ rfl) ?_
  refine r_ic c289_4 kI3 ?_
  refine il1 c289_5 ?_
  refine r_imul c289_6 ?_
  refine r_ic c289_7 kI1 ?_
  refine r_iadd c289_8 ?_
  obtain ⟨gd1, h⟩ := pm_gd_sp h
  refine w_ia c289_9 (by first | rfl | assumption) gd1 ?_
  refine al0 c289_10 ?_
  refine il2 c289_11 ?_
  obtain ⟨⟨ov2, I3, J4⟩, e5, h⟩ := pm_bd_sp h
  dsimp only at h
  refine cv2 q289_12 (v := .int ov2) (μ1 := (I3, J4, P, pm_T0, e)) (d263 hw e5) rfl ?_
  refine r_imul c289_15 ?_
  refine r_bi c289_16 kB52 ?_
  refine r_idiv c289_18 (by decide) ?_
  refine is3 c289_19 rfl ?_
  refine al0 c289_20 ?_
  refine r_gr g289_21 rfl rfl (hp _ _ _ rfl) ?_
  refine r_ic c289_24 kI3 ?_
  refine il1 c289_25 ?_
  refine r_imul c289_26 ?_
  obtain ⟨gd6, h⟩ := pm_gd_sp h
  refine w_ia c289_27 (by first | rfl | assumption) gd6 ?_
  refine al0 c289_28 ?_
  refine r_gr g289_29 rfl rfl (hp _ _ _ rfl) ?_
  refine r_ic c289_32 kI4 ?_
  refine il2 c289_33 ?_
  refine r_imul c289_34 ?_
  refine r_ic c289_35 kI1 ?_
  refine r_iadd c289_36 ?_
  obtain ⟨gd7, h⟩ := pm_gd_sp h
  refine w_ia c289_37 (by first | rfl | assumption) gd7 ?_
  refine r_icne (t := 45) c289_38 rfl (fun h8 => ?_) (fun h8 => ?_)
  · rw [if_neg h8] at h
    refine il3 c289_45 ?_
    refine r_ic c289_46 kI2 ?_
    refine r_idiv c289_47 (by decide) ?_
    cases h
    exact r_ri c289_48 rt289 rfl rfl
  · rw [if_pos h8] at h
    refine il3 c289_41 ?_
    refine r_go (t := 48) c289_42 rfl ?_
    cases h
    exact r_ri c289_48 rt289 rfl rfl
def f288 (x1 : Int32) (x2 : Int32) (I : Nat → Nat → Int32) (J : Nat → Nat → Int64) : Option (Int32 × (Nat → Nat → Int32) × (Nat → Nat → Int64)) := pm_lt (pm_w I 127 0 0) (fun I1 => (f279 x1 1 I1 J).bind (fun (ov2, I3, J4) => (if ov2 = true then (f277 x2 1 I3 J4).bind (fun (ov7, I8, J9) => (if ov7 = true then (f253  I8 J9).bind (fun (ov12, I13, J14) => (f289 x1 x2 I13 J14).bind (fun (ov16, I17, J18) => some (ov16, I17, J18))) else some (0, I8, J9))) else some (0, I3, J4))))
theorem d288 {X : (Nat → Int32) × Nat} {d : Nat} {I : Nat → Nat → Int32} {J : Nat → Nat → Int64} {P : Nat → Nat → Value} {e r k r2 k2 : Nat} {x1 : Int32} {x2 : Int32} {q : Int32 × (Nat → Nat → Int32) × (Nat → Nat → Int64)} (hw : pm_W P r k r2 k2)  (h : f288 x1 x2 I J = some q) : pm_Fn X (d + 7) 288 1 [.ref 127, .int x1, .int x2] (I, J, P, pm_T0, e) (.inl (some (.int q.1))) (q.2.1, q.2.2, P, pm_T0, e) := by
  obtain ⟨hp, hw1, hw2, hw3, hw4, hw5, hw6, hw7, hw8, hw9, hw10, hw11⟩ := id hw
  have hwa := hw5.1
  have hwb := hw6.1
  have hwc := hw7.1
  have hwd := hw8.1
  unfold f288 at h
  refine fn_v rc288 (c := 12) (nf := 59) (by first | rfl | assumption) ml288 rfl rfl rfl rfl ?_
  refine al0 c288_0 ?_
  refine r_ic c288_1 kI0 ?_
  refine w_pi p288_2 (by first | rfl | assumption) rfl ?_
  rw [pm_lt_eq] at h
  generalize pm_w I 127 0 0 = I1 at h ⊢
  refine al0 c288_5 ?_
  refine il1 c288_6 ?_
  refine r_ic c288_7 kI1 ?_
  obtain ⟨⟨ov2, I3, J4⟩, e5, h⟩ := pm_bd_sp h
  dsimp only at h
  refine cv3 q288_8 (v := .int (pm_bi ov2)) (μ1 := (I3, J4, P, pm_T0, e)) (d279 hw e5) rfl ?_
  refine r_ifeq (t := 23) c288_11 rfl (fun h6 => ?_) (fun h6 => ?_)
  · rw [if_neg (pm_bf h6)] at h
    refine r_ic c288_23 kI0 ?_
    cases h
    exact r_ri c288_24 rt288 rfl rfl
  · rw [if_pos (pm_bt h6)] at h
    refine al0 c288_14 ?_
    refine il2 c288_15 ?_
    refine r_ic c288_16 kI1 ?_
    obtain ⟨⟨ov7, I8, J9⟩, e10, h⟩ := pm_bd_sp h
    dsimp only at h
    refine cv3 q288_17 (v := .int (pm_bi ov7)) (μ1 := (I8, J9, P, pm_T0, e)) (d277 hw e10) rfl ?_
    refine r_ifne (t := 25) c288_20 rfl (fun h11 => ?_) (fun h11 => ?_)
    · rw [if_pos (pm_bt h11)] at h
      refine al0 c288_25 ?_
      obtain ⟨⟨ov12, I13, J14⟩, e15, h⟩ := pm_bd_sp h
      dsimp only at h
      refine cz1 q288_26 (μ1 := (I13, J14, P, pm_T0, e)) (d253 hw e15) rfl ?_
      refine al0 c288_29 ?_
      refine il1 c288_30 ?_
      refine il2 c288_31 ?_
      obtain ⟨⟨ov16, I17, J18⟩, e19, h⟩ := pm_bd_sp h
      dsimp only at h
      refine cv3 q288_32 (v := .int ov16) (μ1 := (I17, J18, P, pm_T0, e)) (d289 hw e19) rfl ?_
      cases h
      exact r_ri c288_35 rt288 rfl rfl
    · rw [if_neg (pm_bf h11)] at h
      refine r_ic c288_23 kI0 ?_
      cases h
      exact r_ri c288_24 rt288 rfl rfl
def f293_2  : Nat → Int32 → Int32 → Int32 → (Nat → Nat → Int32) → (Nat → Nat → Int64) → Option (Bool × (Nat → Nat → Int32) × (Nat → Nat → Int64))
  | 0, _, _, _, _, _ => none
  | fu + 1, y1, y2, y3, I, J => (if y3.toInt < y1.toInt then (f267 y3 y1 I J).bind (fun (ov5, I6, J7) => (if ov5 = true then pm_gd (pm_in (0 + y3) 66) ((if (I6 144 (0 + y3).toNatClampNeg) = 1 then pm_gd (pm_in y3 8) ((if (I6 150 (y3).toNatClampNeg) = y2 then f293_2 fu y1 y2 (y3 + 1) I6 J7 else some (false, I6, J7))) else f293_2 fu y1 y2 (y3 + 1) I6 J7)) else f293_2 fu y1 y2 (y3 + 1) I6 J7)) else (if y2 = (-1) then some (true, I, J) else pm_gd (pm_in y2 5) ((if 0 < (I 149 (y2).toNatClampNeg).toInt then some (true, I, J) else some (false, I, J)))))
def f293 (x1 : Int32) (x2 : Int32) (I : Nat → Nat → Int32) (J : Nat → Nat → Int64) : Option (Bool × (Nat → Nat → Int32) × (Nat → Nat → Int64)) := f293_2 pm_FU x1 x2 0 I J
theorem d293_2 {X : (Nat → Int32) × Nat} {d : Nat} {P : Nat → Nat → Value} {e r k r2 k2 : Nat}  (hw : pm_W P r k r2 k2)  : ∀ (fu : Nat) {y1 y2 y3 : Int32} {I : Nat → Nat → Int32} {J : Nat → Nat → Int64} {q : Bool × (Nat → Nat → Int32) × (Nat → Nat → Int64)} (h : f293_2 fu y1 y2 y3 I J = some q), pm_Fx X (d + 1) 293 2 [.ref 127, .int y1, .int y2, .int y3] [] (I, J, P, pm_T0, e) (.inl (some (.int (pm_bi q.1)))) (q.2.1, q.2.2, P, pm_T0, e) := by
  obtain ⟨hp, hw1, hw2, hw3, hw4, hw5, hw6, hw7, hw8, hw9, hw10, hw11⟩ := id hw
  have hwa := hw5.1
  have hwb := hw6.1
  have hwc := hw7.1
  have hwd := hw8.1
  intro fu
  induction fu with
  | zero => intro y1 y2 y3 I J q h; cases h
  | succ fu ih =>
    intro y1 y2 y3 I J q h
    rw [f293_2] at h
    refine il3 c293_2 ?_
    refine il1 c293_3 ?_
    refine r_icge (t := 46) c293_4 rfl (fun h1 => ?_) (fun h1 => ?_)
    · rw [if_neg (Int.not_lt.mpr h1)] at h
      refine il2 c293_46 ?_
      refine r_ic c293_47 kIm1 ?_
      refine r_iceq (t := 60) c293_48 rfl (fun h2 => ?_) (fun h2 => ?_)
      · rw [if_pos h2] at h
        refine r_ic c293_60 kI1 ?_
        refine r_go (t := 65) c293_61 rfl ?_
        cases h
        exact r_rz c293_65 rt293 (by decide) rfl rfl
      · rw [if_neg h2] at h
        refine al0 c293_51 ?_
        refine r_gr g293_52 rfl rfl (hp _ _ _ rfl) ?_
        refine il2 c293_55 ?_
        obtain ⟨gd3, h⟩ := pm_gd_sp h
        refine w_ia c293_56 (by first | rfl | assumption) gd3 ?_
        refine r_ifle (t := 64) c293_57 rfl (fun h4 => ?_) (fun h4 => ?_)
        · rw [if_neg (Int.not_lt.mpr h4)] at h
          refine r_ic c293_64 kI0 ?_
          cases h
          exact r_rz c293_65 rt293 (by decide) rfl rfl
        · rw [if_pos h4] at h
          refine r_ic c293_60 kI1 ?_
          refine r_go (t := 65) c293_61 rfl ?_
          cases h
          exact r_rz c293_65 rt293 (by decide) rfl rfl
    · rw [if_pos h1] at h
      refine al0 c293_7 ?_
      refine il3 c293_8 ?_
      refine il1 c293_9 ?_
      obtain ⟨⟨ov5, I6, J7⟩, e8, h⟩ := pm_bd_sp h
      dsimp only at h
      refine cv3 q293_10 (v := .int (pm_bi ov5)) (μ1 := (I6, J7, P, pm_T0, e)) (d267 hw e8) rfl ?_
      refine r_ifeq (t := 40) c293_13 rfl (fun h9 => ?_) (fun h9 => ?_)
      · rw [if_neg (pm_bf h9)] at h
        refine ii3 c293_40 kI1 rfl ?_
        refine r_go (t := 2) c293_43 rfl ?_
        exact ih h
      · rw [if_pos (pm_bt h9)] at h
        refine al0 c293_16 ?_
        refine r_gr g293_17 rfl rfl (hp _ _ _ rfl) ?_
        refine r_ic c293_20 kI0 ?_
        refine il3 c293_21 ?_
        refine r_iadd c293_22 ?_
        obtain ⟨gd10, h⟩ := pm_gd_sp h
        refine w_ia c293_23 (by first | rfl | assumption) gd10 ?_
        refine r_ic c293_24 kI1 ?_
        refine r_icne (t := 40) c293_25 rfl (fun h11 => ?_) (fun h11 => ?_)
        · rw [if_neg h11] at h
          refine ii3 c293_40 kI1 rfl ?_
          refine r_go (t := 2) c293_43 rfl ?_
          exact ih h
        · rw [if_pos h11] at h
          refine al0 c293_28 ?_
          refine r_gr g293_29 rfl rfl (hp _ _ _ rfl) ?_
          refine il3 c293_32 ?_
          obtain ⟨gd12, h⟩ := pm_gd_sp h
          refine w_ia c293_33 (by first | rfl | assumption) gd12 ?_
          refine il2 c293_34 ?_
          refine r_iceq (t := 40) c293_35 rfl (fun h13 => ?_) (fun h13 => ?_)
          · rw [if_pos h13] at h
            refine ii3 c293_40 kI1 rfl ?_
            refine r_go (t := 2) c293_43 rfl ?_
            exact ih h
          · rw [if_neg h13] at h
            refine r_ic c293_38 kI0 ?_
            cases h
            exact r_rz c293_39 rt293 (by decide) rfl rfl
theorem d293 {X : (Nat → Int32) × Nat} {d : Nat} {I : Nat → Nat → Int32} {J : Nat → Nat → Int64} {P : Nat → Nat → Value} {e r k r2 k2 : Nat} {x1 : Int32} {x2 : Int32} {q : Bool × (Nat → Nat → Int32) × (Nat → Nat → Int64)} (hw : pm_W P r k r2 k2)  (h : f293 x1 x2 I J = some q) : pm_Fn X (d + 1) 293 1 [.ref 127, .int x1, .int x2] (I, J, P, pm_T0, e) (.inl (some (.int (pm_bi q.1)))) (q.2.1, q.2.2, P, pm_T0, e) := by
  obtain ⟨hp, hw1, hw2, hw3, hw4, hw5, hw6, hw7, hw8, hw9, hw10, hw11⟩ := id hw
  have hwa := hw5.1
  have hwb := hw6.1
  have hwc := hw7.1
  have hwd := hw8.1
  unfold f293 at h
  refine fn_v rc293 (c := 12) (nf := 59) (by first | rfl | assumption) ml293 rfl rfl rfl rfl ?_
  refine r_ic c293_0 kI0 ?_
  refine is3 c293_1 rfl ?_
  exact d293_2 hw pm_FU h
def g292  : Nat → Nat → Nat → Int32 → Int32 → Int32 → (Nat → Nat → Int32) → (Nat → Nat → Int64) → Option (Unit × (Nat → Nat → Int32) × (Nat → Nat → Int64))
  | 0, _, _, _, _, _, _, _ => none
  | _ + 1, 0, _, _, _, _, _, _ => none
  | fu + 1, dep + 1, 0, x1, x2, _, I, J => (if x1 = (I 127 18) then (if (I 127 50).toInt < x2.toInt then pm_lt (pm_w I 127 50 x2) (fun I11 => (f218 150 8 151 8 8 I11 J).bind (fun (ov12, I13, J14) => some ((), I13, J14))) else some ((), I, J)) else pm_gd (pm_in (0 + x1) 66) ((if (I 144 (0 + x1).toNatClampNeg) = 1 then g292 fu (dep + 1) 1 x1 x2 (-1) I J else pm_gd (pm_in x1 8) (pm_lt (pm_w I 150 (x1).toNatClampNeg (-1)) (fun I5 => (g292 fu dep 0 (x1 + 1) x2 0 I5 J).bind (fun (ov6, I7, J8) => some ((), I7, J8)))))))
  | fu + 1, dep + 1, _ + 1, y1, y2, y3, I, J => (if y3.toInt < (I 127 19).toInt then (f293 y1 y3 I J).bind (fun (ov2, I3, J4) => (if ov2 = true then pm_gd (pm_in y1 8) (pm_lt (pm_w I3 150 (y1).toNatClampNeg y3) (fun I8 => (if y3 = (-1) then (if y3 = (-1) then (g292 fu dep 0 (y1 + 1) y2 0 I8 J4).bind (fun (ov20, I21, J22) => (if y3 = (-1) then g292 fu (dep + 1) 1 y1 y2 (y3 + 1) I21 J22 else pm_gd (pm_in y3 5) (pm_gd (pm_in y3 5) (pm_lt (pm_w I21 149 (y3).toNatClampNeg ((I21 149 (y3).toNatClampNeg) + 1)) (fun I27 => g292 fu (dep + 1) 1 y1 y2 (y3 + 1) I27 J22))))) else pm_gd (pm_in ((8 * y3) + y1) 40) ((g292 fu dep 0 (y1 + 1) (y2 + (I8 148 ((8 * y3) + y1).toNatClampNeg)) 0 I8 J4).bind (fun (ov12, I13, J14) => (if y3 = (-1) then g292 fu (dep + 1) 1 y1 y2 (y3 + 1) I13 J14 else pm_gd (pm_in y3 5) (pm_gd (pm_in y3 5) (pm_lt (pm_w I13 149 (y3).toNatClampNeg ((I13 149 (y3).toNatClampNeg) + 1)) (fun I19 => g292 fu (dep + 1) 1 y1 y2 (y3 + 1) I19 J14))))))) else pm_gd (pm_in y3 5) (pm_gd (pm_in y3 5) (pm_lt (pm_w I8 149 (y3).toNatClampNeg ((I8 149 (y3).toNatClampNeg) - 1)) (fun I30 => (if y3 = (-1) then (g292 fu dep 0 (y1 + 1) y2 0 I30 J4).bind (fun (ov41, I42, J43) => (if y3 = (-1) then g292 fu (dep + 1) 1 y1 y2 (y3 + 1) I42 J43 else pm_gd (pm_in y3 5) (pm_gd (pm_in y3 5) (pm_lt (pm_w I42 149 (y3).toNatClampNeg ((I42 149 (y3).toNatClampNeg) + 1)) (fun I48 => g292 fu (dep + 1) 1 y1 y2 (y3 + 1) I48 J43))))) else pm_gd (pm_in ((8 * y3) + y1) 40) ((g292 fu dep 0 (y1 + 1) (y2 + (I30 148 ((8 * y3) + y1).toNatClampNeg)) 0 I30 J4).bind (fun (ov33, I34, J35) => (if y3 = (-1) then g292 fu (dep + 1) 1 y1 y2 (y3 + 1) I34 J35 else pm_gd (pm_in y3 5) (pm_gd (pm_in y3 5) (pm_lt (pm_w I34 149 (y3).toNatClampNeg ((I34 149 (y3).toNatClampNeg) + 1)) (fun I40 => g292 fu (dep + 1) 1 y1 y2 (y3 + 1) I40 J35))))))))))))) else g292 fu (dep + 1) 1 y1 y2 (y3 + 1) I3 J4)) else some ((), I, J))
theorem dg292 {X : (Nat → Int32) × Nat} {d : Nat} {P : Nat → Nat → Value} {e r k r2 k2 : Nat}  (hw : pm_W P r k r2 k2)  : ∀ fu dep : Nat, (∀ {x1 x2 : Int32} {I : Nat → Nat → Int32} {J : Nat → Nat → Int64} {q : Unit × (Nat → Nat → Int32) × (Nat → Nat → Int64)} (h : g292 fu dep 0 x1 x2 0 I J = some q), pm_Fn X (d + dep + 2) 292 1 [.ref 127, .int x1, .int x2] (I, J, P, pm_T0, e) (.inl none) (q.2.1, q.2.2, P, pm_T0, e)) ∧ (∀ {y1 y2 y3 : Int32} {I : Nat → Nat → Int32} {J : Nat → Nat → Int64} {q : Unit × (Nat → Nat → Int32) × (Nat → Nat → Int64)} (h : g292 fu dep 1 y1 y2 y3 I J = some q), pm_Fx X (d + dep + 2) 292 67 [.ref 127, .int y1, .int y2, .int y3] [] (I, J, P, pm_T0, e) (.inl none) (q.2.1, q.2.2, P, pm_T0, e)) := by
  obtain ⟨hp, hw1, hw2, hw3, hw4, hw5, hw6, hw7, hw8, hw9, hw10, hw11⟩ := id hw
  have hwa := hw5.1
  have hwb := hw6.1
  have hwc := hw7.1
  have hwd := hw8.1
  intro fu
  induction fu with
  | zero => exact fun dep => ⟨(by intro x1 x2 I J q h; cases h), (by intro y1 y2 y3 I J q h; cases h)⟩
  | succ fu ih =>
    intro dep
    cases dep with
    | zero => exact ⟨(by intro x1 x2 I J q h; rw [g292] at h; cases h), (by intro y1 y2 y3 I J q h; rw [g292] at h; cases h)⟩
    | succ dep =>
      have hd : d + (dep + 1) + 2 = d + dep + 2 + 1 := by omega
      refine ⟨?_, ?_⟩
      · intro x1 x2 I J q h
        rw [g292] at h
        rw [hd]
        refine fn_v rc292 (c := 12) (nf := 59) (by first | rfl | assumption) ml292 rfl rfl rfl rfl ?_
        refine il1 c292_0 ?_
        refine al0 c292_1 ?_
        refine r_gi g292_2 (by first | rfl | assumption) rfl ?_
        refine r_icne (t := 37) c292_5 rfl (fun h1 => ?_) (fun h1 => ?_)
        · rw [if_neg h1] at h
          refine al0 c292_37 ?_
          refine r_gr g292_38 rfl rfl (hp _ _ _ rfl) ?_
          refine r_ic c292_41 kI0 ?_
          refine il1 c292_42 ?_
          refine r_iadd c292_43 ?_
          obtain ⟨gd2, h⟩ := pm_gd_sp h
          refine w_ia c292_44 (by first | rfl | assumption) gd2 ?_
          refine r_ic c292_45 kI1 ?_
          refine r_iceq (t := 65) c292_46 rfl (fun h3 => ?_) (fun h3 => ?_)
          · rw [if_pos h3] at h
            refine r_ic c292_65 kIm1 ?_
            refine is3 c292_66 rfl ?_
            (rw [← hd]; exact (ih (dep + 1)).2 h)
          · rw [if_neg h3] at h
            refine al0 c292_49 ?_
            refine r_gr g292_50 rfl rfl (hp _ _ _ rfl) ?_
            refine il1 c292_53 ?_
            refine r_ic c292_54 kIm1 ?_
            obtain ⟨gd4, h⟩ := pm_gd_sp h
            refine w_ist c292_55 (by first | rfl | assumption) gd4 ?_
            rw [pm_lt_eq] at h
            generalize pm_w I 150 (x1).toNatClampNeg (-1) = I5 at h ⊢
            refine al0 c292_56 ?_
            refine il1 c292_57 ?_
            refine r_ic c292_58 kI1 ?_
            refine r_iadd c292_59 ?_
            refine il2 c292_60 ?_
            obtain ⟨⟨ov6, I7, J8⟩, e9, h⟩ := pm_bd_sp h
            dsimp only at h
            refine cz3 q292_61 (μ1 := (I7, J8, P, pm_T0, e)) ((ih dep).1 e9) rfl ?_
            cases h
            exact r_rv c292_64 rt292 rfl
        · rw [if_pos h1] at h
          refine il2 c292_8 ?_
          refine al0 c292_9 ?_
          refine r_gi g292_10 (by first | rfl | assumption) rfl ?_
          refine r_icgt (t := 17) c292_13 rfl (fun h10 => ?_) (fun h10 => ?_)
          · rw [if_pos h10] at h
            refine al0 c292_17 ?_
            refine il2 c292_18 ?_
            refine w_pi p292_19 (by first | rfl | assumption) rfl ?_
            rw [pm_lt_eq] at h
            generalize pm_w I 127 50 x2 = I11 at h ⊢
            refine al0 c292_22 ?_
            refine al0 c292_23 ?_
            refine r_gr g292_24 rfl rfl (hp _ _ _ rfl) ?_
            refine al0 c292_27 ?_
            refine r_gr g292_28 rfl rfl (hp _ _ _ rfl) ?_
            refine r_bi c292_31 kB8 ?_
            obtain ⟨⟨ov12, I13, J14⟩, e15, h⟩ := pm_bd_sp h
            dsimp only at h
            refine cz4 q292_33 (μ1 := (I13, J14, P, pm_T0, e)) (d218 hw (by first | rfl | assumption | decide) (by first | rfl | assumption | decide) (by first | rfl | assumption | decide) (by first | rfl | assumption | decide) e15) rfl ?_
            cases h
            exact r_rv c292_36 rt292 rfl
          · rw [if_neg (Int.not_lt.mpr h10)] at h
            cases h
            exact r_rv c292_16 rt292 rfl
      · intro y1 y2 y3 I J q h
        rw [g292] at h
        rw [hd]
        refine il3 c292_67 ?_
        refine al0 c292_68 ?_
        refine r_gi g292_69 (by first | rfl | assumption) rfl ?_
        refine r_icge (t := 159) c292_72 rfl (fun h1 => ?_) (fun h1 => ?_)
        · rw [if_neg (Int.not_lt.mpr h1)] at h
          cases h
          exact r_rv c292_159 rt292 rfl
        · rw [if_pos h1] at h
          refine al0 c292_75 ?_
          refine il1 c292_76 ?_
          refine il3 c292_77 ?_
          obtain ⟨⟨ov2, I3, J4⟩, e5, h⟩ := pm_bd_sp h
          dsimp only at h
          refine cv3 q292_78 (v := .int (pm_bi ov2)) (μ1 := (I3, J4, P, pm_T0, e)) (d293 hw e5) rfl ?_
          refine r_ifne (t := 87) c292_81 rfl (fun h6 => ?_) (fun h6 => ?_)
          · rw [if_pos (pm_bt h6)] at h
            refine al0 c292_87 ?_
            refine r_gr g292_88 rfl rfl (hp _ _ _ rfl) ?_
            refine il1 c292_91 ?_
            refine il3 c292_92 ?_
            obtain ⟨gd7, h⟩ := pm_gd_sp h
            refine w_ist c292_93 (by first | rfl | assumption) gd7 ?_
            rw [pm_lt_eq] at h
            generalize pm_w I3 150 (y1).toNatClampNeg y3 = I8 at h ⊢
            refine il3 c292_94 ?_
            refine r_ic c292_95 kIm1 ?_
            refine r_iceq (t := 109) c292_96 rfl (fun h9 => ?_) (fun h9 => ?_)
            · rw [if_pos h9] at h
              refine al0 c292_109 ?_
              refine il1 c292_110 ?_
              refine r_ic c292_111 kI1 ?_
              refine r_iadd c292_112 ?_
              refine il3 c292_113 ?_
              refine r_ic c292_114 kIm1 ?_
              refine r_icne (t := 122) c292_115 rfl (fun h10 => ?_) (fun h10 => ?_)
              · rw [if_neg h10] at h
                refine il2 c292_122 ?_
                refine al0 c292_123 ?_
                refine r_gr g292_124 rfl rfl (hp _ _ _ rfl) ?_
                refine r_bi c292_127 kB8 ?_
                refine il3 c292_129 ?_
                refine r_imul c292_130 ?_
                refine il1 c292_131 ?_
                refine r_iadd c292_132 ?_
                obtain ⟨gd11, h⟩ := pm_gd_sp h
                refine w_ia c292_133 (by first | rfl | assumption) gd11 ?_
                refine r_iadd c292_134 ?_
                obtain ⟨⟨ov12, I13, J14⟩, e15, h⟩ := pm_bd_sp h
                dsimp only at h
                refine cz3 q292_135 (μ1 := (I13, J14, P, pm_T0, e)) ((ih dep).1 e15) rfl ?_
                refine il3 c292_138 ?_
                refine r_ic c292_139 kIm1 ?_
                refine r_iceq (t := 153) c292_140 rfl (fun h16 => ?_) (fun h16 => ?_)
                · rw [if_pos h16] at h
                  refine ii3 c292_153 kI1 rfl ?_
                  refine r_go (t := 67) c292_156 rfl ?_
                  (rw [← hd]; exact (ih (dep + 1)).2 h)
                · rw [if_neg h16] at h
                  refine al0 c292_143 ?_
                  refine r_gr g292_144 rfl rfl (hp _ _ _ rfl) ?_
                  refine il3 c292_147 ?_
                  refine r_dp2 c292_148 ?_
                  obtain ⟨gd17, h⟩ := pm_gd_sp h
                  refine w_ia c292_149 (by first | rfl | assumption) gd17 ?_
                  refine r_ic c292_150 kI1 ?_
                  refine r_iadd c292_151 ?_
                  obtain ⟨gd18, h⟩ := pm_gd_sp h
                  refine w_ist c292_152 (by first | rfl | assumption) gd18 ?_
                  rw [pm_lt_eq] at h
                  generalize pm_w I13 149 (y3).toNatClampNeg ((I13 149 (y3).toNatClampNeg) + 1) = I19 at h ⊢
                  refine ii3 c292_153 kI1 rfl ?_
                  refine r_go (t := 67) c292_156 rfl ?_
                  (rw [← hd]; exact (ih (dep + 1)).2 h)
              · rw [if_pos h10] at h
                refine il2 c292_118 ?_
                refine r_go (t := 135) c292_119 rfl ?_
                obtain ⟨⟨ov20, I21, J22⟩, e23, h⟩ := pm_bd_sp h
                dsimp only at h
                refine cz3 q292_135 (μ1 := (I21, J22, P, pm_T0, e)) ((ih dep).1 e23) rfl ?_
                refine il3 c292_138 ?_
                refine r_ic c292_139 kIm1 ?_
                refine r_iceq (t := 153) c292_140 rfl (fun h24 => ?_) (fun h24 => ?_)
                · rw [if_pos h24] at h
                  refine ii3 c292_153 kI1 rfl ?_
                  refine r_go (t := 67) c292_156 rfl ?_
                  (rw [← hd]; exact (ih (dep + 1)).2 h)
                · rw [if_neg h24] at h
                  refine al0 c292_143 ?_
                  refine r_gr g292_144 rfl rfl (hp _ _ _ rfl) ?_
                  refine il3 c292_147 ?_
                  refine r_dp2 c292_148 ?_
                  obtain ⟨gd25, h⟩ := pm_gd_sp h
                  refine w_ia c292_149 (by first | rfl | assumption) gd25 ?_
                  refine r_ic c292_150 kI1 ?_
                  refine r_iadd c292_151 ?_
                  obtain ⟨gd26, h⟩ := pm_gd_sp h
                  refine w_ist c292_152 (by first | rfl | assumption) gd26 ?_
                  rw [pm_lt_eq] at h
                  generalize pm_w I21 149 (y3).toNatClampNeg ((I21 149 (y3).toNatClampNeg) + 1) = I27 at h ⊢
                  refine ii3 c292_153 kI1 rfl ?_
                  refine r_go (t := 67) c292_156 rfl ?_
                  (rw [← hd]; exact (ih (dep + 1)).2 h)
            · rw [if_neg h9] at h
              refine al0 c292_99 ?_
              refine r_gr g292_100 rfl rfl (hp _ _ _ rfl) ?_
              refine il3 c292_103 ?_
              refine r_dp2 c292_104 ?_
              obtain ⟨gd28, h⟩ := pm_gd_sp h
              refine w_ia c292_105 (by first | rfl | assumption) gd28 ?_
              refine r_ic c292_106 kI1 ?_
              refine r_isub c292_107 ?_
              obtain ⟨gd29, h⟩ := pm_gd_sp h
              refine w_ist c292_108 (by first | rfl | assumption) gd29 ?_
              rw [pm_lt_eq] at h
              generalize pm_w I8 149 (y3).toNatClampNeg ((I8 149 (y3).toNatClampNeg) - 1) = I30 at h ⊢
              refine al0 c292_109 ?_
              refine il1 c292_110 ?_
              refine r_ic c292_111 kI1 ?_
              refine r_iadd c292_112 ?_
              refine il3 c292_113 ?_
              refine r_ic c292_114 kIm1 ?_
              refine r_icne (t := 122) c292_115 rfl (fun h31 => ?_) (fun h31 => ?_)
              · rw [if_neg h31] at h
                refine il2 c292_122 ?_
                refine al0 c292_123 ?_
                refine r_gr g292_124 rfl rfl (hp _ _ _ rfl) ?_
                refine r_bi c292_127 kB8 ?_
                refine il3 c292_129 ?_
                refine r_imul c292_130 ?_
                refine il1 c292_131 ?_
                refine r_iadd c292_132 ?_
                obtain ⟨gd32, h⟩ := pm_gd_sp h
                refine w_ia c292_133 (by first | rfl | assumption) gd32 ?_
                refine r_iadd c292_134 ?_
                obtain ⟨⟨ov33, I34, J35⟩, e36, h⟩ := pm_bd_sp h
                dsimp only at h
                refine cz3 q292_135 (μ1 := (I34, J35, P, pm_T0, e)) ((ih dep).1 e36) rfl ?_
                refine il3 c292_138 ?_
                refine r_ic c292_139 kIm1 ?_
                refine r_iceq (t := 153) c292_140 rfl (fun h37 => ?_) (fun h37 => ?_)
                · rw [if_pos h37] at h
                  refine ii3 c292_153 kI1 rfl ?_
                  refine r_go (t := 67) c292_156 rfl ?_
                  (rw [← hd]; exact (ih (dep + 1)).2 h)
                · rw [if_neg h37] at h
                  refine al0 c292_143 ?_
                  refine r_gr g292_144 rfl rfl (hp _ _ _ rfl) ?_
                  refine il3 c292_147 ?_
                  refine r_dp2 c292_148 ?_
                  obtain ⟨gd38, h⟩ := pm_gd_sp h
                  refine w_ia c292_149 (by first | rfl | assumption) gd38 ?_
                  refine r_ic c292_150 kI1 ?_
                  refine r_iadd c292_151 ?_
                  obtain ⟨gd39, h⟩ := pm_gd_sp h
                  refine w_ist c292_152 (by first | rfl | assumption) gd39 ?_
                  rw [pm_lt_eq] at h
                  generalize pm_w I34 149 (y3).toNatClampNeg ((I34 149 (y3).toNatClampNeg) + 1) = I40 at h ⊢
                  refine ii3 c292_153 kI1 rfl ?_
                  refine r_go (t := 67) c292_156 rfl ?_
                  (rw [← hd]; exact (ih (dep + 1)).2 h)
              · rw [if_pos h31] at h
                refine il2 c292_118 ?_
                refine r_go (t := 135) c292_119 rfl ?_
                obtain ⟨⟨ov41, I42, J43⟩, e44, h⟩ := pm_bd_sp h
                dsimp only at h
                refine cz3 q292_135 (μ1 := (I42, J43, P, pm_T0, e)) ((ih dep).1 e44) rfl ?_
                refine il3 c292_138 ?_
                refine r_ic c292_139 kIm1 ?_
                refine r_iceq (t := 153) c292_140 rfl (fun h45 => ?_) (fun h45 => ?_)
                · rw [if_pos h45] at h
                  refine ii3 c292_153 kI1 rfl ?_
                  refine r_go (t := 67) c292_156 rfl ?_
                  (rw [← hd]; exact (ih (dep + 1)).2 h)
                · rw [if_neg h45] at h
                  refine al0 c292_143 ?_
                  refine r_gr g292_144 rfl rfl (hp _ _ _ rfl) ?_
                  refine il3 c292_147 ?_
                  refine r_dp2 c292_148 ?_
                  obtain ⟨gd46, h⟩ := pm_gd_sp h
                  refine w_ia c292_149 (by first | rfl | assumption) gd46 ?_
                  refine r_ic c292_150 kI1 ?_
                  refine r_iadd c292_151 ?_
                  obtain ⟨gd47, h⟩ := pm_gd_sp h
                  refine w_ist c292_152 (by first | rfl | assumption) gd47 ?_
                  rw [pm_lt_eq] at h
                  generalize pm_w I42 149 (y3).toNatClampNeg ((I42 149 (y3).toNatClampNeg) + 1) = I48 at h ⊢
                  refine ii3 c292_153 kI1 rfl ?_
                  refine r_go (t := 67) c292_156 rfl ?_
                  (rw [← hd]; exact (ih (dep + 1)).2 h)
          · rw [if_neg (pm_bf h6)] at h
            refine r_go (t := 153) c292_84 rfl ?_
            refine ii3 c292_153 kI1 rfl ?_
            refine r_go (t := 67) c292_156 rfl ?_
            (rw [← hd]; exact (ih (dep + 1)).2 h)
def f292 (x1 : Int32) (x2 : Int32) (I : Nat → Nat → Int32) (J : Nat → Nat → Int64) : Option (Unit × (Nat → Nat → Int32) × (Nat → Nat → Int64)) := g292 pm_FU 40 0 x1 x2 0 I J
theorem d292 {X : (Nat → Int32) × Nat} {d : Nat} {I : Nat → Nat → Int32} {J : Nat → Nat → Int64} {P : Nat → Nat → Value} {e r k r2 k2 : Nat} {x1 : Int32} {x2 : Int32} {q : Unit × (Nat → Nat → Int32) × (Nat → Nat → Int64)} (hw : pm_W P r k r2 k2)  (h : f292 x1 x2 I J = some q) : pm_Fn X (d + 42) 292 1 [.ref 127, .int x1, .int x2] (I, J, P, pm_T0, e) (.inl none) (q.2.1, q.2.2, P, pm_T0, e) := by
  have hd : d + 40 + 2 = d + 42 := by omega
  rw [← hd]
  exact (dg292 hw pm_FU 40).1 h
def f291_L  : Nat → Nat → Int32 → Int32 → (Nat → Nat → Int32) → (Nat → Nat → Int64) → Option (Unit × (Nat → Nat → Int32) × (Nat → Nat → Int64))
  | 0, _, _, _, _, _ => none
  | fu + 1, 0, y1, _, I, J => (if y1.toInt < (I 127 19).toInt then pm_gd (pm_in ((3 * y1) + 2) 15) ((f259 y1 I J).bind (fun (ov8, I9, J10) => pm_gd (pm_in y1 5) (pm_lt (pm_w I9 149 (y1).toNatClampNeg ((I 133 ((3 * y1) + 2).toNatClampNeg) - ov8)) (fun I13 => f291_L fu 1 y1 0 I13 J10)))) else pm_lt (pm_w I 127 50 (-1)) (fun I2 => (f292 0 0 I2 J).bind (fun (ov3, I4, J5) => some ((), I4, J5))))
  | fu + 1, _ + 1, y1, y2, I, J => (if y2.toInt < (I 127 18).toInt then (f289 y1 y2 I J).bind (fun (ov15, I16, J17) => pm_gd (pm_in ((8 * y1) + y2) 40) (pm_lt (pm_w I16 148 ((8 * y1) + y2).toNatClampNeg ov15) (fun I20 => f291_L fu 1 y1 (y2 + 1) I20 J17))) else f291_L fu 0 (y1 + 1) 0 I J)
def f291  (I : Nat → Nat → Int32) (J : Nat → Nat → Int64) : Option (Unit × (Nat → Nat → Int32) × (Nat → Nat → Int64)) := (f253  I J).bind (fun (ov1, I2, J3) => f291_L pm_FU 0 0 0 I2 J3)
theorem d291_L {X : (Nat → Int32) × Nat} {d : Nat} {P : Nat → Nat → Value} {e r k r2 k2 : Nat}  (hw : pm_W P r k r2 k2)  : ∀ fu : Nat, (∀ {y1 : Int32} {I : Nat → Nat → Int32} {J : Nat → Nat → Int64} {q : Unit × (Nat → Nat → Int32) × (Nat → Nat → Int64)} {z2 : Value} (h : f291_L fu 0 y1 0 I J = some q), pm_Fx X (d + 43) 291 6 [.ref 127, .int y1, z2] [] (I, J, P, pm_T0, e) (.inl none) (q.2.1, q.2.2, P, pm_T0, e)) ∧ (∀ {y1 y2 : Int32} {I : Nat → Nat → Int32} {J : Nat → Nat → Int64} {q : Unit × (Nat → Nat → Int32) × (Nat → Nat → Int64)} (h : f291_L fu 1 y1 y2 I J = some q), pm_Fx X (d + 43) 291 38 [.ref 127, .int y1, .int y2] [] (I, J, P, pm_T0, e) (.inl none) (q.2.1, q.2.2, P, pm_T0, e)) := by
  obtain ⟨hp, hw1, hw2, hw3, hw4, hw5, hw6, hw7, hw8, hw9, hw10, hw11⟩ := id hw
  have hwa := hw5.1
  have hwb := hw6.1
  have hwc := hw7.1
  have hwd := hw8.1
  intro fu
  induction fu with
  | zero => exact ⟨(by intro y1 I J q z2 h; cases h), (by intro y1 y2 I J q h; cases h)⟩
  | succ fu ih =>
    refine ⟨?_, ?_⟩
    · intro y1 I J q z2 h
      rw [f291_L] at h
      refine il1 c291_6 ?_
      refine al0 c291_7 ?_
      refine r_gi g291_8 (by first | rfl | assumption) rfl ?_
      refine r_icge (t := 75) c291_11 rfl (fun h1 => ?_) (fun h1 => ?_)
      · rw [if_neg (Int.not_lt.mpr h1)] at h
        refine al0 c291_75 ?_
        refine r_ic c291_76 kIm1 ?_
        refine w_pi p291_77 (by first | rfl | assumption) rfl ?_
        rw [pm_lt_eq] at h
        generalize pm_w I 127 50 (-1) = I2 at h ⊢
        refine al0 c291_80 ?_
        refine r_ic c291_81 kI0 ?_
        refine r_ic c291_82 kI0 ?_
        obtain ⟨⟨ov3, I4, J5⟩, e6, h⟩ := pm_bd_sp h
        dsimp only at h
        refine cz3 q291_83 (μ1 := (I4, J5, P, pm_T0, e)) (d292 hw e6) rfl ?_
        cases h
        exact r_rv c291_86 rt291 rfl
      · rw [if_pos h1] at h
        refine al0 c291_14 ?_
        refine r_gr g291_15 rfl rfl (hp _ _ _ rfl) ?_
        refine il1 c291_18 ?_
        refine al0 c291_19 ?_
        refine r_gr g291_20 rfl rfl (hp _ _ _ rfl) ?_
        refine r_ic c291_23 kI3 ?_
        refine il1 c291_24 ?_
        refine r_imul c291_25 ?_
        refine r_ic c291_26 kI2 ?_
        refine r_iadd c291_27 ?_
        obtain ⟨gd7, h⟩ := pm_gd_sp h
        refine w_ia c291_28 (by first | rfl | assumption) gd7 ?_
        refine al0 c291_29 ?_
        refine il1 c291_30 ?_
        obtain ⟨⟨ov8, I9, J10⟩, e11, h⟩ := pm_bd_sp h
        dsimp only at h
        refine cv2 q291_31 (v := .int ov8) (μ1 := (I9, J10, P, pm_T0, e)) (d259 hw e11) rfl ?_
        refine r_isub c291_34 ?_
        obtain ⟨gd12, h⟩ := pm_gd_sp h
        refine w_ist c291_35 (by first | rfl | assumption) gd12 ?_
        rw [pm_lt_eq] at h
        generalize pm_w I9 149 (y1).toNatClampNeg ((I 133 ((3 * y1) + 2).toNatClampNeg) - ov8) = I13 at h ⊢
        refine r_ic c291_36 kI0 ?_
        refine is2 c291_37 rfl ?_
        exact ih.2 h
    · intro y1 y2 I J q h
      rw [f291_L] at h
      refine il2 c291_38 ?_
      refine al0 c291_39 ?_
      refine r_gi g291_40 (by first | rfl | assumption) rfl ?_
      refine r_icge (t := 69) c291_43 rfl (fun h14 => ?_) (fun h14 => ?_)
      · rw [if_neg (Int.not_lt.mpr h14)] at h
        refine ii1 c291_69 kI1 rfl ?_
        refine r_go (t := 6) c291_72 rfl ?_
        exact ih.1 h
      · rw [if_pos h14] at h
        refine al0 c291_46 ?_
        refine r_gr g291_47 rfl rfl (hp _ _ _ rfl) ?_
        refine r_bi c291_50 kB8 ?_
        refine il1 c291_52 ?_
        refine r_imul c291_53 ?_
        refine il2 c291_54 ?_
        refine r_iadd c291_55 ?_
        refine al0 c291_56 ?_
        refine il1 c291_57 ?_
        refine il2 c291_58 ?_
        obtain ⟨⟨ov15, I16, J17⟩, e18, h⟩ := pm_bd_sp h
        dsimp only at h
        refine cv3 q291_59 (v := .int ov15) (μ1 := (I16, J17, P, pm_T0, e)) (d289 hw e18) rfl ?_
        obtain ⟨gd19, h⟩ := pm_gd_sp h
        refine w_ist c291_62 (by first | rfl | assumption) gd19 ?_
        rw [pm_lt_eq] at h
        generalize pm_w I16 148 ((8 * y1) + y2).toNatClampNeg ov15 = I20 at h ⊢
        refine ii2 c291_63 kI1 rfl ?_
        refine r_go (t := 38) c291_66 rfl ?_
        exact ih.2 h
theorem d291 {X : (Nat → Int32) × Nat} {d : Nat} {I : Nat → Nat → Int32} {J : Nat → Nat → Int64} {P : Nat → Nat → Value} {e r k r2 k2 : Nat}  {q : Unit × (Nat → Nat → Int32) × (Nat → Nat → Int64)} (hw : pm_W P r k r2 k2)  (h : f291  I J = some q) : pm_Fn X (d + 43) 291 1 [.ref 127] (I, J, P, pm_T0, e) (.inl none) (q.2.1, q.2.2, P, pm_T0, e) := by
  obtain ⟨hp, hw1, hw2, hw3, hw4, hw5, hw6, hw7, hw8, hw9, hw10, hw11⟩ := id hw
  have hwa := hw5.1
  have hwb := hw6.1
  have hwc := hw7.1
  have hwd := hw8.1
  unfold f291 at h
  refine fn_v rc291 (c := 12) (nf := 59) (by first | rfl | assumption) ml291 rfl rfl rfl rfl ?_
  refine al0 c291_0 ?_
  obtain ⟨⟨ov1, I2, J3⟩, e4, h⟩ := pm_bd_sp h
  dsimp only at h
  refine cz1 q291_1 (μ1 := (I2, J3, P, pm_T0, e)) (d253 hw e4) rfl ?_
  refine r_ic c291_4 kI0 ?_
  refine is1 c291_5 rfl ?_
  exact (d291_L hw pm_FU).1 h
def f290_39  : Nat → Int32 → Int32 → (Nat → Nat → Int32) → (Nat → Nat → Int64) → Option (Int32 × (Nat → Nat → Int32) × (Nat → Nat → Int64))
  | 0, _, _, _, _ => none
  | fu + 1, y2, y3, I, J => (if y3.toInt < (I 127 18).toInt then pm_gd (pm_in y3 8) ((if (I 151 (y3).toNatClampNeg) = (-1) then f290_39 fu (y2 + 0) (y3 + 1) I J else f290_39 fu (y2 + 1) (y3 + 1) I J)) else some (y2, I, J))
def f290 (x1 : Int32) (I : Nat → Nat → Int32) (J : Nat → Nat → Int64) : Option (Int32 × (Nat → Nat → Int32) × (Nat → Nat → Int64)) := pm_lt (pm_w I 127 0 0) (fun I1 => (f222 (pm_bi (v241 x1 0 1 I1)) 1 1 I1 J).bind (fun (ov2, I3, J4) => (if ov2 = true then (f291  I3 J4).bind (fun (ov7, I8, J9) => (if x1 = 0 then some (I8 127 50, I8, J9) else f290_39 pm_FU 0 0 I8 J9)) else some (0, I3, J4))))
theorem d290_39 {X : (Nat → Int32) × Nat} {d : Nat} {P : Nat → Nat → Value} {e r k r2 k2 : Nat}  (hw : pm_W P r k r2 k2)  : ∀ (fu : Nat) {y2 y3 : Int32} {I : Nat → Nat → Int32} {J : Nat → Nat → Int64} {q : Int32 × (Nat → Nat → Int32) × (Nat → Nat → Int64)} {z1 : Value} (h : f290_39 fu y2 y3 I J = some q), pm_Fx X (d + 44) 290 39 [.ref 127, z1, .int y2, .int y3] [] (I, J, P, pm_T0, e) (.inl (some (.int q.1))) (q.2.1, q.2.2, P, pm_T0, e) := by
  obtain ⟨hp, hw1, hw2, hw3, hw4, hw5, hw6, hw7, hw8, hw9, hw10, hw11⟩ := id hw
  have hwa := hw5.1
  have hwb := hw6.1
  have hwc := hw7.1
  have hwd := hw8.1
  intro fu
  induction fu with
  | zero => intro y2 y3 I J q z1 h; cases h
  | succ fu ih =>
    intro y2 y3 I J q z1 h
    rw [f290_39] at h
    refine il3 c290_39 ?_
    refine al0 c290_40 ?_
    refine r_gi g290_41 (by first | rfl | assumption) rfl ?_
    refine r_icge (t := 71) c290_44 rfl (fun h1 => ?_) (fun h1 => ?_)
    · rw [if_neg (Int.not_lt.mpr h1)] at h
      refine il2 c290_71 ?_
      cases h
      exact r_ri c290_72 rt290 rfl rfl
    · rw [if_pos h1] at h
      refine il2 c290_47 ?_
      refine al0 c290_48 ?_
      refine r_gr g290_49 rfl rfl (hp _ _ _ rfl) ?_
      refine il3 c290_52 ?_
      obtain ⟨gd2, h⟩ := pm_gd_sp h
      refine w_ia c290_53 (by first | rfl | assumption) gd2 ?_
      refine r_ic c290_54 kIm1 ?_
      refine r_icne (t := 62) c290_55 rfl (fun h3 => ?_) (fun h3 => ?_)
      · rw [if_neg h3] at h
        refine r_ic c290_62 kI1 ?_
        refine r_iadd c290_63 ?_
        refine is2c c290_64 ?_
        refine ii3 c290_65 kI1 rfl ?_
        refine r_go (t := 39) c290_68 rfl ?_
        exact ih h
      · rw [if_pos h3] at h
        refine r_ic c290_58 kI0 ?_
        refine r_go (t := 63) c290_59 rfl ?_
        refine r_iadd c290_63 ?_
        refine is2c c290_64 ?_
        refine ii3 c290_65 kI1 rfl ?_
        refine r_go (t := 39) c290_68 rfl ?_
        exact ih h
theorem d290 {X : (Nat → Int32) × Nat} {d : Nat} {I : Nat → Nat → Int32} {J : Nat → Nat → Int64} {P : Nat → Nat → Value} {e r k r2 k2 : Nat} {x1 : Int32} {q : Int32 × (Nat → Nat → Int32) × (Nat → Nat → Int64)} (hw : pm_W P r k r2 k2)  (h : f290 x1 I J = some q) : pm_Fn X (d + 44) 290 1 [.ref 127, .int x1] (I, J, P, pm_T0, e) (.inl (some (.int q.1))) (q.2.1, q.2.2, P, pm_T0, e) := by
  obtain ⟨hp, hw1, hw2, hw3, hw4, hw5, hw6, hw7, hw8, hw9, hw10, hw11⟩ := id hw
  have hwa := hw5.1
  have hwb := hw6.1
  have hwc := hw7.1
  have hwd := hw8.1
  unfold f290 at h
  refine fn_v rc290 (c := 12) (nf := 59) (by first | rfl | assumption) ml290 rfl rfl rfl rfl ?_
  refine al0 c290_0 ?_
  refine r_ic c290_1 kI0 ?_
  refine w_pi p290_2 (by first | rfl | assumption) rfl ?_
  rw [pm_lt_eq] at h
  generalize pm_w I 127 0 0 = I1 at h ⊢
  refine al0 c290_5 ?_
  refine il1 c290_6 ?_
  refine r_ic c290_7 kI0 ?_
  refine r_ic c290_8 kI1 ?_
  refine cv3 q290_9 (d241 hw rfl) rfl ?_
  refine r_ic c290_12 kI1 ?_
  refine r_ic c290_13 kI1 ?_
  obtain ⟨⟨ov2, I3, J4⟩, e5, h⟩ := pm_bd_sp h
  dsimp only at h
  refine cv4 q290_14 (v := .int (pm_bi ov2)) (μ1 := (I3, J4, P, pm_T0, e)) (d222 hw e5) rfl ?_
  refine r_ifne (t := 22) c290_17 rfl (fun h6 => ?_) (fun h6 => ?_)
  · rw [if_pos (pm_bt h6)] at h
    refine al0 c290_22 ?_
    obtain ⟨⟨ov7, I8, J9⟩, e10, h⟩ := pm_bd_sp h
    dsimp only at h
    refine cz1 q290_23 (μ1 := (I8, J9, P, pm_T0, e)) (d291 hw e10) rfl ?_
    refine il1 c290_26 ?_
    refine r_ifne (t := 35) c290_27 rfl (fun h11 => ?_) (fun h11 => ?_)
    · rw [if_neg h11] at h
      refine r_ic c290_35 kI0 ?_
      refine is2 c290_36 rfl ?_
      refine r_ic c290_37 kI0 ?_
      refine is3 c290_38 rfl ?_
      exact d290_39 hw pm_FU h
    · rw [if_pos h11] at h
      refine al0 c290_30 ?_
      refine r_gi g290_31 (by first | rfl | assumption) rfl ?_
      cases h
      exact r_ri c290_34 rt290 rfl rfl
  · rw [if_neg (pm_bf h6)] at h
    refine r_ic c290_20 kI0 ?_
    cases h
    exact r_ri c290_21 rt290 rfl rfl
def f294 (x1 : Int32) (I : Nat → Nat → Int32) (J : Nat → Nat → Int64) : Option (Int32 × (Nat → Nat → Int32) × (Nat → Nat → Int64)) := pm_lt (pm_w I 127 0 0) (fun I1 => (f277 x1 1 I1 J).bind (fun (ov2, I3, J4) => (if ov2 = true then (f291  I3 J4).bind (fun (ov7, I8, J9) => pm_gd (pm_in x1 8) (some (I8 151 (x1).toNatClampNeg, I8, J9))) else some (0, I3, J4))))
theorem d294 {X : (Nat → Int32) × Nat} {d : Nat} {I : Nat → Nat → Int32} {J : Nat → Nat → Int64} {P : Nat → Nat → Value} {e r k r2 k2 : Nat} {x1 : Int32} {q : Int32 × (Nat → Nat → Int32) × (Nat → Nat → Int64)} (hw : pm_W P r k r2 k2)  (h : f294 x1 I J = some q) : pm_Fn X (d + 44) 294 1 [.ref 127, .int x1] (I, J, P, pm_T0, e) (.inl (some (.int q.1))) (q.2.1, q.2.2, P, pm_T0, e) := by
  obtain ⟨hp, hw1, hw2, hw3, hw4, hw5, hw6, hw7, hw8, hw9, hw10, hw11⟩ := id hw
  have hwa := hw5.1
  have hwb := hw6.1
  have hwc := hw7.1
  have hwd := hw8.1
  unfold f294 at h
  refine fn_v rc294 (c := 12) (nf := 59) (by first | rfl | assumption) ml294 rfl rfl rfl rfl ?_
  refine al0 c294_0 ?_
  refine r_ic c294_1 kI0 ?_
  refine w_pi p294_2 (by first | rfl | assumption) rfl ?_
  rw [pm_lt_eq] at h
  generalize pm_w I 127 0 0 = I1 at h ⊢
  refine al0 c294_5 ?_
  refine il1 c294_6 ?_
  refine r_ic c294_7 kI1 ?_
  obtain ⟨⟨ov2, I3, J4⟩, e5, h⟩ := pm_bd_sp h
  dsimp only at h
  refine cv3 q294_8 (v := .int (pm_bi ov2)) (μ1 := (I3, J4, P, pm_T0, e)) (d277 hw e5) rfl ?_
  refine r_ifne (t := 16) c294_11 rfl (fun h6 => ?_) (fun h6 => ?_)
  · rw [if_pos (pm_bt h6)] at h
    refine al0 c294_16 ?_
    obtain ⟨⟨ov7, I8, J9⟩, e10, h⟩ := pm_bd_sp h
    dsimp only at h
    refine cz1 q294_17 (μ1 := (I8, J9, P, pm_T0, e)) (d291 hw e10) rfl ?_
    refine al0 c294_20 ?_
    refine r_gr g294_21 rfl rfl (hp _ _ _ rfl) ?_
    refine il1 c294_24 ?_
    obtain ⟨gd11, h⟩ := pm_gd_sp h
    refine w_ia c294_25 (by first | rfl | assumption) gd11 ?_
    cases h
    exact r_ri c294_26 rt294 rfl rfl
  · rw [if_neg (pm_bf h6)] at h
    refine r_ic c294_14 kI0 ?_
    cases h
    exact r_ri c294_15 rt294 rfl rfl
def f295_L  : Nat → Nat → Int32 → Int32 → Int32 → (Nat → Nat → Int32) → (Nat → Nat → Int64) → Option (Int32 × (Nat → Nat → Int32) × (Nat → Nat → Int64))
  | 0, _, _, _, _, _, _ => none
  | fu + 1, 0, y1, y2, _, I, J => (if y2.toInt < (I 127 18).toInt then f295_L fu 1 y1 y2 0 I J else some (y1, I, J))
  | fu + 1, _ + 1, y1, y2, y3, I, J => (if y3.toInt < y2.toInt then (f267 y2 y3 I J).bind (fun (ov3, I4, J5) => (if ov3 = true then pm_gd (pm_in (0 + y2) 66) ((if (I4 143 (0 + y2).toNatClampNeg) = 2 then pm_gd (pm_in (0 + y3) 66) ((if (I4 143 (0 + y3).toNatClampNeg) = 2 then pm_gd (pm_in (8 + y2) 66) (pm_gd (pm_in (8 + y3) 66) ((if (I4 143 (8 + y2).toNatClampNeg) = (I4 143 (8 + y3).toNatClampNeg) then f295_L fu 1 (y1 + 0) y2 (y3 + 1) I4 J5 else f295_L fu 1 (y1 + 1) y2 (y3 + 1) I4 J5))) else f295_L fu 1 (y1 + 0) y2 (y3 + 1) I4 J5)) else f295_L fu 1 (y1 + 0) y2 (y3 + 1) I4 J5)) else f295_L fu 1 (y1 + 0) y2 (y3 + 1) I4 J5)) else f295_L fu 0 y1 (y2 + 1) 0 I J)
def f295  (I : Nat → Nat → Int32) (J : Nat → Nat → Int64) : Option (Int32 × (Nat → Nat → Int32) × (Nat → Nat → Int64)) := pm_lt (pm_w I 127 0 0) (fun I1 => f295_L pm_FU 0 0 0 0 I1 J)
theorem d295_L {X : (Nat → Int32) × Nat} {d : Nat} {P : Nat → Nat → Value} {e r k r2 k2 : Nat}  (hw : pm_W P r k r2 k2)  : ∀ fu : Nat, (∀ {y1 y2 : Int32} {I : Nat → Nat → Int32} {J : Nat → Nat → Int64} {q : Int32 × (Nat → Nat → Int32) × (Nat → Nat → Int64)} {z3 : Value} (h : f295_L fu 0 y1 y2 0 I J = some q), pm_Fx X (d + 1) 295 9 [.ref 127, .int y1, .int y2, z3] [] (I, J, P, pm_T0, e) (.inl (some (.int q.1))) (q.2.1, q.2.2, P, pm_T0, e)) ∧ (∀ {y1 y2 y3 : Int32} {I : Nat → Nat → Int32} {J : Nat → Nat → Int64} {q : Int32 × (Nat → Nat → Int32) × (Nat → Nat → Int64)} (h : f295_L fu 1 y1 y2 y3 I J = some q), pm_Fx X (d + 1) 295 19 [.ref 127, .int y1, .int y2, .int y3] [] (I, J, P, pm_T0, e) (.inl (some (.int q.1))) (q.2.1, q.2.2, P, pm_T0, e)) := by
  obtain ⟨hp, hw1, hw2, hw3, hw4, hw5, hw6, hw7, hw8, hw9, hw10, hw11⟩ := id hw
  have hwa := hw5.1
  have hwb := hw6.1
  have hwc := hw7.1
  have hwd := hw8.1
  intro fu
  induction fu with
  | zero => exact ⟨(by intro y1 y2 I J q z3 h; cases h), (by intro y1 y2 y3 I J q h; cases h)⟩
  | succ fu ih =>
    refine ⟨?_, ?_⟩
    · intro y1 y2 I J q z3 h
      rw [f295_L] at h
      refine il2 c295_9 ?_
      refine al0 c295_10 ?_
      refine r_gi g295_11 (by first | rfl | assumption) rfl ?_
      refine r_icge (t := 98) c295_14 rfl (fun h1 => ?_) (fun h1 => ?_)
      · rw [if_neg (Int.not_lt.mpr h1)] at h
        refine il1 c295_98 ?_
        cases h
        exact r_ri c295_99 rt295 rfl rfl
      · rw [if_pos h1] at h
        refine r_ic c295_17 kI0 ?_
        refine is3 c295_18 rfl ?_
        exact ih.2 h
    · intro y1 y2 y3 I J q h
      rw [f295_L] at h
      refine il3 c295_19 ?_
      refine il2 c295_20 ?_
      refine r_icge (t := 92) c295_21 rfl (fun h2 => ?_) (fun h2 => ?_)
      · rw [if_neg (Int.not_lt.mpr h2)] at h
        refine ii2 c295_92 kI1 rfl ?_
        refine r_go (t := 9) c295_95 rfl ?_
        exact ih.1 h
      · rw [if_pos h2] at h
        refine il1 c295_24 ?_
        refine al0 c295_25 ?_
        refine il2 c295_26 ?_
        refine il3 c295_27 ?_
        obtain ⟨⟨ov3, I4, J5⟩, e6, h⟩ := pm_bd_sp h
        dsimp only at h
        refine cv3 q295_28 (v := .int (pm_bi ov3)) (μ1 := (I4, J5, P, pm_T0, e)) (d267 hw e6) rfl ?_
        refine r_ifeq (t := 83) c295_31 rfl (fun h7 => ?_) (fun h7 => ?_)
        · rw [if_neg (pm_bf h7)] at h
          refine r_ic c295_83 kI0 ?_
          refine r_iadd c295_84 ?_
          refine is1 c295_85 rfl ?_
          refine ii3 c295_86 kI1 rfl ?_
          refine r_go (t := 19) c295_89 rfl ?_
          exact ih.2 h
        · rw [if_pos (pm_bt h7)] at h
          refine al0 c295_34 ?_
          refine r_gr g295_35 rfl rfl (hp _ _ _ rfl) ?_
          refine r_ic c295_38 kI0 ?_
          refine il2 c295_39 ?_
          refine r_iadd c295_40 ?_
          obtain ⟨gd8, h⟩ := pm_gd_sp h
          refine w_ia c295_41 (by first | rfl | assumption) gd8 ?_
          refine r_ic c295_42 kI2 ?_
          refine r_icne (t := 83) c295_43 rfl (fun h9 => ?_) (fun h9 => ?_)
          · rw [if_neg h9] at h
            refine r_ic c295_83 kI0 ?_
            refine r_iadd c295_84 ?_
            refine is1 c295_85 rfl ?_
            refine ii3 c295_86 kI1 rfl ?_
            refine r_go (t := 19) c295_89 rfl ?_
            exact ih.2 h
          · rw [if_pos h9] at h
            refine al0 c295_46 ?_
            refine r_gr g295_47 rfl rfl (hp _ _ _ rfl) ?_
            refine r_ic c295_50 kI0 ?_
            refine il3 c295_51 ?_
            refine r_iadd c295_52 ?_
            obtain ⟨gd10, h⟩ := pm_gd_sp h
            refine w_ia c295_53 (by first | rfl | assumption) gd10 ?_
            refine r_ic c295_54 kI2 ?_
            refine r_icne (t := 83) c295_55 rfl (fun h11 => ?_) (fun h11 => ?_)
            · rw [if_neg h11] at h
              refine r_ic c295_83 kI0 ?_
              refine r_iadd c295_84 ?_
              refine is1 c295_85 rfl ?_
              refine ii3 c295_86 kI1 rfl ?_
              refine r_go (t := 19) c295_89 rfl ?_
              exact ih.2 h
            · rw [if_pos h11] at h
              refine al0 c295_58 ?_
              refine r_gr g295_59 rfl rfl (hp _ _ _ rfl) ?_
              refine r_bi c295_62 kB8 ?_
              refine il2 c295_64 ?_
              refine r_iadd c295_65 ?_
              obtain ⟨gd12, h⟩ := pm_gd_sp h
              refine w_ia c295_66 (by first | rfl | assumption) gd12 ?_
              refine al0 c295_67 ?_
              refine r_gr g295_68 rfl rfl (hp _ _ _ rfl) ?_
              refine r_bi c295_71 kB8 ?_
              refine il3 c295_73 ?_
              refine r_iadd c295_74 ?_
              obtain ⟨gd13, h⟩ := pm_gd_sp h
              refine w_ia c295_75 (by first | rfl | assumption) gd13 ?_
              refine r_iceq (t := 83) c295_76 rfl (fun h14 => ?_) (fun h14 => ?_)
              · rw [if_pos h14] at h
                refine r_ic c295_83 kI0 ?_
                refine r_iadd c295_84 ?_
                refine is1 c295_85 rfl ?_
                refine ii3 c295_86 kI1 rfl ?_
                refine r_go (t := 19) c295_89 rfl ?_
                exact ih.2 h
              · rw [if_neg h14] at h
                refine r_ic c295_79 kI1 ?_
                refine r_go (t := 84) c295_80 rfl ?_
                refine r_iadd c295_84 ?_
                refine is1 c295_85 rfl ?_
                refine ii3 c295_86 kI1 rfl ?_
                refine r_go (t := 19) c295_89 rfl ?_
                exact ih.2 h
theorem d295 {X : (Nat → Int32) × Nat} {d : Nat} {I : Nat → Nat → Int32} {J : Nat → Nat → Int64} {P : Nat → Nat → Value} {e r k r2 k2 : Nat}  {q : Int32 × (Nat → Nat → Int32) × (Nat → Nat → Int64)} (hw : pm_W P r k r2 k2)  (h : f295  I J = some q) : pm_Fn X (d + 1) 295 1 [.ref 127] (I, J, P, pm_T0, e) (.inl (some (.int q.1))) (q.2.1, q.2.2, P, pm_T0, e) := by
  obtain ⟨hp, hw1, hw2, hw3, hw4, hw5, hw6, hw7, hw8, hw9, hw10, hw11⟩ := id hw
  have hwa := hw5.1
  have hwb := hw6.1
  have hwc := hw7.1
  have hwd := hw8.1
  unfold f295 at h
  refine fn_v rc295 (c := 12) (nf := 59) (by first | rfl | assumption) ml295 rfl rfl rfl rfl ?_
  refine al0 c295_0 ?_
  refine r_ic c295_1 kI0 ?_
  refine w_pi p295_2 (by first | rfl | assumption) rfl ?_
  rw [pm_lt_eq] at h
  generalize pm_w I 127 0 0 = I1 at h ⊢
  refine r_ic c295_5 kI0 ?_
  refine is1 c295_6 rfl ?_
  refine r_ic c295_7 kI0 ?_
  refine is2 c295_8 rfl ?_
  exact (d295_L hw pm_FU).1 h
def f296_20  : Nat → Int32 → Int32 → Int32 → (Nat → Nat → Int32) → (Nat → Nat → Int64) → Option (Int32 × (Nat → Nat → Int32) × (Nat → Nat → Int64))
  | 0, _, _, _, _, _ => none
  | fu + 1, y1, y2, y3, I, J => (if y3.toInt < (I 127 18).toInt then (f267 y1 y3 I J).bind (fun (ov2, I3, J4) => (if ov2 = true then f296_20 fu y1 (y2 ||| ((1 : Int32) <<< (y3 &&& 31))) (y3 + 1) I3 J4 else f296_20 fu y1 (y2 ||| 0) (y3 + 1) I3 J4)) else some (y2, I, J))
def f296 (x1 : Int32) (I : Nat → Nat → Int32) (J : Nat → Nat → Int64) : Option (Int32 × (Nat → Nat → Int32) × (Nat → Nat → Int64)) := pm_lt (pm_w I 127 0 0) (fun I1 => (f277 x1 1 I1 J).bind (fun (ov2, I3, J4) => (if ov2 = true then f296_20 pm_FU x1 0 0 I3 J4 else some (0, I3, J4))))
theorem d296_20 {X : (Nat → Int32) × Nat} {d : Nat} {P : Nat → Nat → Value} {e r k r2 k2 : Nat}  (hw : pm_W P r k r2 k2)  : ∀ (fu : Nat) {y1 y2 y3 : Int32} {I : Nat → Nat → Int32} {J : Nat → Nat → Int64} {q : Int32 × (Nat → Nat → Int32) × (Nat → Nat → Int64)} (h : f296_20 fu y1 y2 y3 I J = some q), pm_Fx X (d + 2) 296 20 [.ref 127, .int y1, .int y2, .int y3] [] (I, J, P, pm_T0, e) (.inl (some (.int q.1))) (q.2.1, q.2.2, P, pm_T0, e) := by
  obtain ⟨hp, hw1, hw2, hw3, hw4, hw5, hw6, hw7, hw8, hw9, hw10, hw11⟩ := id hw
  have hwa := hw5.1
  have hwb := hw6.1
  have hwc := hw7.1
  have hwd := hw8.1
  intro fu
  induction fu with
  | zero => intro y1 y2 y3 I J q h; cases h
  | succ fu ih =>
    intro y1 y2 y3 I J q h
    rw [f296_20] at h
    refine il3 c296_20 ?_
    refine al0 c296_21 ?_
    refine r_gi g296_22 (by first | rfl | assumption) rfl ?_
    refine r_icge (t := 53) c296_25 rfl (fun h1 => ?_) (fun h1 => ?_)
    · rw [if_neg (Int.not_lt.mpr h1)] at h
      refine il2 c296_53 ?_
      cases h
      exact r_ri c296_54 rt296 rfl rfl
    · rw [if_pos h1] at h
      refine il2 c296_28 ?_
      refine al0 c296_29 ?_
      refine il1 c296_30 ?_
      refine il3 c296_31 ?_
      obtain ⟨⟨ov2, I3, J4⟩, e5, h⟩ := pm_bd_sp h
      dsimp only at h
      refine cv3 q296_32 (v := .int (pm_bi ov2)) (μ1 := (I3, J4, P, pm_T0, e)) (d267 hw e5) rfl ?_
      refine r_ifeq (t := 44) c296_35 rfl (fun h6 => ?_) (fun h6 => ?_)
      · rw [if_neg (pm_bf h6)] at h
        refine r_ic c296_44 kI0 ?_
        refine r_ior c296_45 ?_
        refine is2 c296_46 rfl ?_
        refine ii3 c296_47 kI1 rfl ?_
        refine r_go (t := 20) c296_50 rfl ?_
        exact ih h
      · rw [if_pos (pm_bt h6)] at h
        refine r_ic c296_38 kI1 ?_
        refine il3 c296_39 ?_
        refine r_ishl c296_40 ?_
        refine r_go (t := 45) c296_41 rfl ?_
        refine r_ior c296_45 ?_
        refine is2 c296_46 rfl ?_
        refine ii3 c296_47 kI1 rfl ?_
        refine r_go (t := 20) c296_50 rfl ?_
        exact ih h
theorem d296 {X : (Nat → Int32) × Nat} {d : Nat} {I : Nat → Nat → Int32} {J : Nat → Nat → Int64} {P : Nat → Nat → Value} {e r k r2 k2 : Nat} {x1 : Int32} {q : Int32 × (Nat → Nat → Int32) × (Nat → Nat → Int64)} (hw : pm_W P r k r2 k2)  (h : f296 x1 I J = some q) : pm_Fn X (d + 2) 296 1 [.ref 127, .int x1] (I, J, P, pm_T0, e) (.inl (some (.int q.1))) (q.2.1, q.2.2, P, pm_T0, e) := by
  obtain ⟨hp, hw1, hw2, hw3, hw4, hw5, hw6, hw7, hw8, hw9, hw10, hw11⟩ := id hw
  have hwa := hw5.1
  have hwb := hw6.1
  have hwc := hw7.1
  have hwd := hw8.1
  unfold f296 at h
  refine fn_v rc296 (c := 12) (nf := 59) (by first | rfl | assumption) ml296 rfl rfl rfl rfl ?_
  refine al0 c296_0 ?_
  refine r_ic c296_1 kI0 ?_
  refine w_pi p296_2 (by first | rfl | assumption) rfl ?_
  rw [pm_lt_eq] at h
  generalize pm_w I 127 0 0 = I1 at h ⊢
  refine al0 c296_5 ?_
  refine il1 c296_6 ?_
  refine r_ic c296_7 kI1 ?_
  obtain ⟨⟨ov2, I3, J4⟩, e5, h⟩ := pm_bd_sp h
  dsimp only at h
  refine cv3 q296_8 (v := .int (pm_bi ov2)) (μ1 := (I3, J4, P, pm_T0, e)) (d277 hw e5) rfl ?_
  refine r_ifne (t := 16) c296_11 rfl (fun h6 => ?_) (fun h6 => ?_)
  · rw [if_pos (pm_bt h6)] at h
    refine r_ic c296_16 kI0 ?_
    refine is2 c296_17 rfl ?_
    refine r_ic c296_18 kI0 ?_
    refine is3 c296_19 rfl ?_
    exact d296_20 hw pm_FU h
  · rw [if_neg (pm_bf h6)] at h
    refine r_ic c296_14 kI0 ?_
    cases h
    exact r_ri c296_15 rt296 rfl rfl
