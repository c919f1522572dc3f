/-! THE METHODS AS FUNCTIONS OF THE MEMORY (written by dec.py) -/
def f319 (x1 : Int32) (x2 : Int32) (x3 : Int32) (x4 : Int32) (x5 : Int32) (I : Nat → Nat → Int32) (J : Nat → Nat → Int64) : Option (Int32 × (Nat → Nat → Int32) × (Nat → Nat → Int64)) := pm_lt (pm_w I 127 0 0) (fun I1 => (if (v320 x2 x3 x4 I1) = true then (if (v241 x5 0 3 I1) = true then (f222 1 1 1 I1 J).bind (fun (ov38, I39, J40) => (if ov38 = true then (f321 x1 x2 x3 x4 I39 J40).bind (fun (ov43, I44, J45) => (if x5 = 0 then some (I44 127 41, I44, J45) else (if x5 = 1 then pm_gd (pm_in 65 66) (some (I44 144 (65 : Int32).toNatClampNeg, I44, J45)) else (if x5 = 2 then some (I44 127 56, I44, J45) else (f257 3 I44 J45).bind (fun (ov50, I51, J52) => some (ov50, I51, J52)))))) else some (0, I39, J40))) else (f222 0 1 1 I1 J).bind (fun (ov21, I22, J23) => (if ov21 = true then (f321 x1 x2 x3 x4 I22 J23).bind (fun (ov26, I27, J28) => (if x5 = 0 then some (I27 127 41, I27, J28) else (if x5 = 1 then pm_gd (pm_in 65 66) (some (I27 144 (65 : Int32).toNatClampNeg, I27, J28)) else (if x5 = 2 then some (I27 127 56, I27, J28) else (f257 3 I27 J28).bind (fun (ov33, I34, J35) => some (ov33, I34, J35)))))) else some (0, I22, J23)))) else (f222 0 1 1 I1 J).bind (fun (ov3, I4, J5) => (if ov3 = true then (f321 x1 x2 x3 x4 I4 J5).bind (fun (ov8, I9, J10) => (if x5 = 0 then some (I9 127 41, I9, J10) else (if x5 = 1 then pm_gd (pm_in 65 66) (some (I9 144 (65 : Int32).toNatClampNeg, I9, J10)) else (if x5 = 2 then some (I9 127 56, I9, J10) else (f257 3 I9 J10).bind (fun (ov15, I16, J17) => some (ov15, I16, J17)))))) else some (0, I4, J5)))))
theorem d319 {X : (Nat → Int32) × Nat} {d : Nat} {I : Nat → Nat → Int32} {J : Nat → Nat → Int64} {P : Nat → Nat → Value} {e r k r2 k2 : Nat} {x1 : Int32} {x2 : Int32} {x3 : Int32} {x4 : Int32} {x5 : Int32} {q : Int32 × (Nat → Nat → Int32) × (Nat → Nat → Int64)} (hw : pm_W P r k r2 k2)  (h : f319 x1 x2 x3 x4 x5 I J = some q) : pm_Fn X (d + 8) 319 1 [.ref 127, .int x1, .int x2, .int x3, .int x4, .int x5] (I, J, P, pm_T0, e) (.inl (some (.int q.1))) (q.2.1, q.2.2, P, pm_T0, e) := by
  obtain ⟨hp, hw1, hw2, hw3, hw4, hw5, hw6, hw7, hw8, hw9, hw10, hw11⟩ := id hw
  have hwa := hw5.1
  have hwb := hw6.1
  have hwc := hw7.1
  have hwd := hw8.1
  unfold f319 at h
  refine fn_v rc319 (c := 12) (nf := 59) (by first | rfl | assumption) ml319 rfl rfl rfl rfl ?_
  refine al0 c319_0 ?_
  refine r_ic c319_1 kI0 ?_
  refine w_pi p319_2 (by first | rfl | assumption) rfl ?_
  rw [pm_lt_eq] at h
  generalize pm_w I 127 0 0 = I1 at h ⊢
  refine al0 c319_5 ?_
  refine il2 c319_6 ?_
  refine il3 c319_7 ?_
  refine il4 c319_8 ?_
  refine cv3 q319_10 (d320 hw rfl) rfl ?_
  refine r_ifeq (t := 30) c319_13 rfl (fun h2 => ?_) (fun h2 => ?_)
  · rw [if_neg (pm_bf h2)] at h
    refine r_ic c319_30 kI0 ?_
    refine r_ic c319_31 kI1 ?_
    refine r_ic c319_32 kI1 ?_
    obtain ⟨⟨ov3, I4, J5⟩, e6, h⟩ := pm_bd_sp h
    dsimp only at h
    refine cv4 q319_33 (v := .int (pm_bi ov3)) (μ1 := (I4, J5, P, pm_T0, e)) (d222 hw e6) rfl ?_
    refine r_ifne (t := 41) c319_36 rfl (fun h7 => ?_) (fun h7 => ?_)
    · rw [if_pos (pm_bt h7)] at h
      refine al0 c319_41 ?_
      refine il1 c319_42 ?_
      refine il2 c319_43 ?_
      refine il3 c319_44 ?_
      refine il4 c319_45 ?_
      obtain ⟨⟨ov8, I9, J10⟩, e11, h⟩ := pm_bd_sp h
      dsimp only at h
      refine cz5 q319_47 (μ1 := (I9, J10, P, pm_T0, e)) (d321 hw e11) rfl ?_
      refine il5 c319_50 ?_
      refine r_ifne (t := 62) c319_52 rfl (fun h12 => ?_) (fun h12 => ?_)
      · rw [if_neg h12] at h
        refine il5 c319_62 ?_
        refine r_ic c319_64 kI1 ?_
        refine r_icne (t := 78) c319_65 rfl (fun h13 => ?_) (fun h13 => ?_)
        · rw [if_neg h13] at h
          refine il5 c319_78 ?_
          refine r_ic c319_80 kI2 ?_
          refine r_icne (t := 91) c319_81 rfl (fun h14 => ?_) (fun h14 => ?_)
          · rw [if_neg h14] at h
            refine al0 c319_91 ?_
            refine r_ic c319_92 kI3 ?_
            obtain ⟨⟨ov15, I16, J17⟩, e18, h⟩ := pm_bd_sp h
            dsimp only at h
            refine cv2 q319_93 (v := .int ov15) (μ1 := (I16, J17, P, pm_T0, e)) (d257 hw e18) rfl ?_
            cases h
            exact r_ri c319_96 rt319 rfl rfl
          · rw [if_pos h14] at h
            refine al0 c319_84 ?_
            refine r_gi g319_85 (by first | rfl | assumption) rfl ?_
            refine r_go (t := 96) c319_88 rfl ?_
            cases h
            exact r_ri c319_96 rt319 rfl rfl
        · rw [if_pos h13] at h
          refine al0 c319_68 ?_
          refine r_gr g319_69 rfl rfl (hp _ _ _ rfl) ?_
          refine r_bi c319_72 kB65 ?_
          obtain ⟨gd19, h⟩ := pm_gd_sp h
          refine w_ia c319_74 (by first | rfl | assumption) gd19 ?_
          refine r_go (t := 96) c319_75 rfl ?_
          cases h
          exact r_ri c319_96 rt319 rfl rfl
      · rw [if_pos h12] at h
        refine al0 c319_55 ?_
        refine r_gi g319_56 (by first | rfl | assumption) rfl ?_
        refine r_go (t := 96) c319_59 rfl ?_
        cases h
        exact r_ri c319_96 rt319 rfl rfl
    · rw [if_neg (pm_bf h7)] at h
      refine r_ic c319_39 kI0 ?_
      cases h
      exact r_ri c319_40 rt319 rfl rfl
  · rw [if_pos (pm_bt h2)] at h
    refine il5 c319_16 ?_
    refine r_ic c319_18 kI0 ?_
    refine r_ic c319_19 kI3 ?_
    refine cv3 q319_20 (d241 hw rfl) rfl ?_
    refine r_ifeq (t := 30) c319_23 rfl (fun h20 => ?_) (fun h20 => ?_)
    · rw [if_neg (pm_bf h20)] at h
      refine r_ic c319_30 kI0 ?_
      refine r_ic c319_31 kI1 ?_
      refine r_ic c319_32 kI1 ?_
      obtain ⟨⟨ov21, I22, J23⟩, e24, h⟩ := pm_bd_sp h
      dsimp only at h
      refine cv4 q319_33 (v := .int (pm_bi ov21)) (μ1 := (I22, J23, P, pm_T0, e)) (d222 hw e24) rfl ?_
      refine r_ifne (t := 41) c319_36 rfl (fun h25 => ?_) (fun h25 => ?_)
      · rw [if_pos (pm_bt h25)] at h
        refine al0 c319_41 ?_
        refine il1 c319_42 ?_
        refine il2 c319_43 ?_
        refine il3 c319_44 ?_
        refine il4 c319_45 ?_
        obtain ⟨⟨ov26, I27, J28⟩, e29, h⟩ := pm_bd_sp h
        dsimp only at h
        refine cz5 q319_47 (μ1 := (I27, J28, P, pm_T0, e)) (d321 hw e29) rfl ?_
        refine il5 c319_50 ?_
        refine r_ifne (t := 62) c319_52 rfl (fun h30 => ?_) (fun h30 => ?_)
        · rw [if_neg h30] at h
          refine il5 c319_62 ?_
          refine r_ic c319_64 kI1 ?_
          refine r_icne (t := 78) c319_65 rfl (fun h31 => ?_) (fun h31 => ?_)
          · rw [if_neg h31] at h
            refine il5 c319_78 ?_
            refine r_ic c319_80 kI2 ?_
            refine r_icne (t := 91) c319_81 rfl (fun h32 => ?_) (fun h32 => ?_)
            · rw [if_neg h32] at h
              refine al0 c319_91 ?_
              refine r_ic c319_92 kI3 ?_
              obtain ⟨⟨ov33, I34, J35⟩, e36, h⟩ := pm_bd_sp h
              dsimp only at h
              refine cv2 q319_93 (v := .int ov33) (μ1 := (I34, J35, P, pm_T0, e)) (d257 hw e36) rfl ?_
              cases h
              exact r_ri c319_96 rt319 rfl rfl
            · rw [if_pos h32] at h
              refine al0 c319_84 ?_
              refine r_gi g319_85 (by first | rfl | assumption) rfl ?_
              refine r_go (t := 96) c319_88 rfl ?_
              cases h
              exact r_ri c319_96 rt319 rfl rfl
          · rw [if_pos h31] at h
            refine al0 c319_68 ?_
            refine r_gr g319_69 rfl rfl (hp _ _ _ rfl) ?_
            refine r_bi c319_72 kB65 ?_
            obtain ⟨gd37, h⟩ := pm_gd_sp h
            refine w_ia c319_74 (by first | rfl | assumption) gd37 ?_
            refine r_go (t := 96) c319_75 rfl ?_
            cases h
            exact r_ri c319_96 rt319 rfl rfl
        · rw [if_pos h30] at h
          refine al0 c319_55 ?_
          refine r_gi g319_56 (by first | rfl | assumption) rfl ?_
          refine r_go (t := 96) c319_59 rfl ?_
          cases h
          exact r_ri c319_96 rt319 rfl rfl
      · rw [if_neg (pm_bf h25)] at h
        refine r_ic c319_39 kI0 ?_
        cases h
        exact r_ri c319_40 rt319 rfl rfl
    · rw [if_pos (pm_bt h20)] at h
      refine r_ic c319_26 kI1 ?_
      refine r_go (t := 31) c319_27 rfl ?_
      refine r_ic c319_31 kI1 ?_
      refine r_ic c319_32 kI1 ?_
      obtain ⟨⟨ov38, I39, J40⟩, e41, h⟩ := pm_bd_sp h
      dsimp only at h
      refine cv4 q319_33 (v := .int (pm_bi ov38)) (μ1 := (I39, J40, P, pm_T0, e)) (d222 hw e41) rfl ?_
      refine r_ifne (t := 41) c319_36 rfl (fun h42 => ?_) (fun h42 => ?_)
      · rw [if_pos (pm_bt h42)] at h
        refine al0 c319_41 ?_
        refine il1 c319_42 ?_
        refine il2 c319_43 ?_
        refine il3 c319_44 ?_
        refine il4 c319_45 ?_
        obtain ⟨⟨ov43, I44, J45⟩, e46, h⟩ := pm_bd_sp h
        dsimp only at h
        refine cz5 q319_47 (μ1 := (I44, J45, P, pm_T0, e)) (d321 hw e46) rfl ?_
        refine il5 c319_50 ?_
        refine r_ifne (t := 62) c319_52 rfl (fun h47 => ?_) (fun h47 => ?_)
        · rw [if_neg h47] at h
          refine il5 c319_62 ?_
          refine r_ic c319_64 kI1 ?_
          refine r_icne (t := 78) c319_65 rfl (fun h48 => ?_) (fun h48 => ?_)
          · rw [if_neg h48] at h
            refine il5 c319_78 ?_
            refine r_ic c319_80 kI2 ?_
            refine r_icne (t := 91) c319_81 rfl (fun h49 => ?_) (fun h49 => ?_)
            · rw [if_neg h49] at h
              refine al0 c319_91 ?_
              refine r_ic c319_92 kI3 ?_
              obtain ⟨⟨ov50, I51, J52⟩, e53, h⟩ := pm_bd_sp h
              dsimp only at h
              refine cv2 q319_93 (v := .int ov50) (μ1 := (I51, J52, P, pm_T0, e)) (d257 hw e53) rfl ?_
              cases h
              exact r_ri c319_96 rt319 rfl rfl
            · rw [if_pos h49] at h
              refine al0 c319_84 ?_
              refine r_gi g319_85 (by first | rfl | assumption) rfl ?_
              refine r_go (t := 96) c319_88 rfl ?_
              cases h
              exact r_ri c319_96 rt319 rfl rfl
          · rw [if_pos h48] at h
            refine al0 c319_68 ?_
            refine r_gr g319_69 rfl rfl (hp _ _ _ rfl) ?_
            refine r_bi c319_72 kB65 ?_
            obtain ⟨gd54, h⟩ := pm_gd_sp h
            refine w_ia c319_74 (by first | rfl | assumption) gd54 ?_
            refine r_go (t := 96) c319_75 rfl ?_
            cases h
            exact r_ri c319_96 rt319 rfl rfl
        · rw [if_pos h47] at h
          refine al0 c319_55 ?_
          refine r_gi g319_56 (by first | rfl | assumption) rfl ?_
          refine r_go (t := 96) c319_59 rfl ?_
          cases h
          exact r_ri c319_96 rt319 rfl rfl
      · rw [if_neg (pm_bf h42)] at h
        refine r_ic c319_39 kI0 ?_
        cases h
        exact r_ri c319_40 rt319 rfl rfl
def f323_64  : Nat → Int32 → Int32 → Int32 → Int32 → Int32 → Int32 → Int32 → Int32 → Int32 → Int32 → (Nat → Nat → Int32) → (Nat → Nat → Int64) → Option (Int32 × (Nat → Nat → Int32) × (Nat → Nat → Int64))
  | 0, _, _, _, _, _, _, _, _, _, _, _, _ => none
  | fu + 1, y1, y2, y3, y4, y5, y6, y7, y8, y9, y10, I, J => (if y10.toInt < y2.toInt then (f321 (y1 + y10) y3 y4 y5 I J).bind (fun (ov4, I5, J6) => (if y7 = (-1) then (if y8.toInt < (I5 127 41).toInt then (if (I5 127 41) = 0 then f323_64 fu y1 y2 y3 y4 y5 y6 (I5 127 41) (I5 127 41) (y9 + 1) (y10 + 1) I5 J6 else f323_64 fu y1 y2 y3 y4 y5 y6 (I5 127 41) (I5 127 41) (y9 + 0) (y10 + 1) I5 J6) else (if (I5 127 41) = 0 then f323_64 fu y1 y2 y3 y4 y5 y6 (I5 127 41) y8 (y9 + 1) (y10 + 1) I5 J6 else f323_64 fu y1 y2 y3 y4 y5 y6 (I5 127 41) y8 (y9 + 0) (y10 + 1) I5 J6)) else (if (I5 127 41).toInt < y7.toInt then (if y8.toInt < (I5 127 41).toInt then (if (I5 127 41) = 0 then f323_64 fu y1 y2 y3 y4 y5 y6 (I5 127 41) (I5 127 41) (y9 + 1) (y10 + 1) I5 J6 else f323_64 fu y1 y2 y3 y4 y5 y6 (I5 127 41) (I5 127 41) (y9 + 0) (y10 + 1) I5 J6) else (if (I5 127 41) = 0 then f323_64 fu y1 y2 y3 y4 y5 y6 (I5 127 41) y8 (y9 + 1) (y10 + 1) I5 J6 else f323_64 fu y1 y2 y3 y4 y5 y6 (I5 127 41) y8 (y9 + 0) (y10 + 1) I5 J6)) else (if y8.toInt < (I5 127 41).toInt then (if (I5 127 41) = 0 then f323_64 fu y1 y2 y3 y4 y5 y6 y7 (I5 127 41) (y9 + 1) (y10 + 1) I5 J6 else f323_64 fu y1 y2 y3 y4 y5 y6 y7 (I5 127 41) (y9 + 0) (y10 + 1) I5 J6) else (if (I5 127 41) = 0 then f323_64 fu y1 y2 y3 y4 y5 y6 y7 y8 (y9 + 1) (y10 + 1) I5 J6 else f323_64 fu y1 y2 y3 y4 y5 y6 y7 y8 (y9 + 0) (y10 + 1) I5 J6))))) else (if y6 = 0 then some (y7, I, J) else (if y6 = 1 then some (y8, I, J) else some (y9, I, J))))
def f323 (x1 : Int32) (x2 : Int32) (x3 : Int32) (x4 : Int32) (x5 : Int32) (x6 : Int32) (I : Nat → Nat → Int32) (J : Nat → Nat → Int64) : Option (Int32 × (Nat → Nat → Int32) × (Nat → Nat → Int64)) := pm_lt (pm_w I 127 0 0) (fun I1 => (if (v241 x2 1 20 I1) = true then (if (v320 x3 x4 x5 I1) = true then (if (v241 x6 0 2 I1) = true then (f222 1 1 1 I1 J).bind (fun (ov20, I21, J22) => (if ov20 = true then f323_64 pm_FU x1 x2 x3 x4 x5 x6 (-1) 0 0 0 I21 J22 else some (0, I21, J22))) else (f222 0 1 1 I1 J).bind (fun (ov15, I16, J17) => (if ov15 = true then f323_64 pm_FU x1 x2 x3 x4 x5 x6 (-1) 0 0 0 I16 J17 else some (0, I16, J17)))) else (f222 0 1 1 I1 J).bind (fun (ov9, I10, J11) => (if ov9 = true then f323_64 pm_FU x1 x2 x3 x4 x5 x6 (-1) 0 0 0 I10 J11 else some (0, I10, J11)))) else (f222 0 1 1 I1 J).bind (fun (ov3, I4, J5) => (if ov3 = true then f323_64 pm_FU x1 x2 x3 x4 x5 x6 (-1) 0 0 0 I4 J5 else some (0, I4, J5)))))
theorem d323_64 {X : (Nat → Int32) × Nat} {d : Nat} {P : Nat → Nat → Value} {e r k r2 k2 : Nat}  (hw : pm_W P r k r2 k2)  : ∀ (fu : Nat) {y1 y2 y3 y4 y5 y6 y7 y8 y9 y10 : Int32} {I : Nat → Nat → Int32} {J : Nat → Nat → Int64} {q : Int32 × (Nat → Nat → Int32) × (Nat → Nat → Int64)} (h : f323_64 fu y1 y2 y3 y4 y5 y6 y7 y8 y9 y10 I J = some q), pm_Fx X (d + 8) 323 64 [.ref 127, .int y1, .int y2, .int y3, .int y4, .int y5, .int y6, .int y7, .int y8, .int y9, .int y10] [] (I, J, P, pm_T0, e) (.inl (some (.int q.1))) (q.2.1, q.2.2, P, pm_T0, e) := by
  obtain ⟨hp, hw1, hw2, hw3, hw4, hw5, hw6, hw7, hw8, hw9, hw10, hw11⟩ := id hw
  have hwa := hw5.1
  have hwb := hw6.1
  have hwc := hw7.1
  have hwd := hw8.1
  intro fu
  induction fu with
  | zero => intro y1 y2 y3 y4 y5 y6 y7 y8 y9 y10 I J q h; cases h
  | succ fu ih =>
    intro y1 y2 y3 y4 y5 y6 y7 y8 y9 y10 I J q h
    rw [f323_64] at h
    refine il10 c323_64 ?_
    refine il2 c323_66 ?_
    refine r_icge (t := 152) c323_67 rfl (fun h1 => ?_) (fun h1 => ?_)
    · rw [if_neg (Int.not_lt.mpr h1)] at h
      refine il6 c323_152 ?_
      refine r_ifne (t := 162) c323_154 rfl (fun h2 => ?_) (fun h2 => ?_)
      · rw [if_neg h2] at h
        refine il6 c323_162 ?_
        refine r_ic c323_164 kI1 ?_
        refine r_icne (t := 173) c323_165 rfl (fun h3 => ?_) (fun h3 => ?_)
        · rw [if_neg h3] at h
          refine il9 c323_173 ?_
          cases h
          exact r_ri c323_175 rt323 rfl rfl
        · rw [if_pos h3] at h
          refine il8 c323_168 ?_
          refine r_go (t := 175) c323_170 rfl ?_
          cases h
          exact r_ri c323_175 rt323 rfl rfl
      · rw [if_pos h2] at h
        refine il7 c323_157 ?_
        refine r_go (t := 175) c323_159 rfl ?_
        cases h
        exact r_ri c323_175 rt323 rfl rfl
    · rw [if_pos h1] at h
      refine al0 c323_70 ?_
      refine il1 c323_71 ?_
      refine il10 c323_72 ?_
      refine r_iadd c323_74 ?_
      refine il3 c323_75 ?_
      refine il4 c323_76 ?_
      refine il5 c323_78 ?_
      obtain ⟨⟨ov4, I5, J6⟩, e7, h⟩ := pm_bd_sp h
      dsimp only at h
      refine cz5 q323_80 (μ1 := (I5, J6, P, pm_T0, e)) (d321 hw e7) rfl ?_
      refine il7 c323_83 ?_
      refine r_ic c323_85 kIm1 ?_
      refine r_iceq (t := 98) c323_86 rfl (fun h8 => ?_) (fun h8 => ?_)
      · rw [if_pos h8] at h
        refine al0 c323_98 ?_
        refine r_gi g323_99 (by first | rfl | assumption) rfl ?_
        refine r_go (t := 107) c323_102 rfl ?_
        refine is7 c323_107 rfl ?_
        refine al0 c323_109 ?_
        refine r_gi g323_110 (by first | rfl | assumption) rfl ?_
        refine il8 c323_113 ?_
        refine r_icle (t := 125) c323_115 rfl (fun h9 => ?_) (fun h9 => ?_)
        · rw [if_neg (Int.not_lt.mpr h9)] at h
          refine il8 c323_125 ?_
          refine is8 c323_127 rfl ?_
          refine il9 c323_129 ?_
          refine al0 c323_131 ?_
          refine r_gi g323_132 (by first | rfl | assumption) rfl ?_
          refine r_ifne (t := 142) c323_135 rfl (fun h10 => ?_) (fun h10 => ?_)
          · rw [if_neg h10] at h
            refine r_ic c323_142 kI0 ?_
            refine r_iadd c323_143 ?_
            refine is9 c323_144 rfl ?_
            refine ii10 c323_146 kI1 rfl ?_
            refine r_go (t := 64) c323_149 rfl ?_
            exact ih h
          · rw [if_pos h10] at h
            refine r_ic c323_138 kI1 ?_
            refine r_go (t := 143) c323_139 rfl ?_
            refine r_iadd c323_143 ?_
            refine is9 c323_144 rfl ?_
            refine ii10 c323_146 kI1 rfl ?_
            refine r_go (t := 64) c323_149 rfl ?_
            exact ih h
        · rw [if_pos h9] at h
          refine al0 c323_118 ?_
          refine r_gi g323_119 (by first | rfl | assumption) rfl ?_
          refine r_go (t := 127) c323_122 rfl ?_
          refine is8 c323_127 rfl ?_
          refine il9 c323_129 ?_
          refine al0 c323_131 ?_
          refine r_gi g323_132 (by first | rfl | assumption) rfl ?_
          refine r_ifne (t := 142) c323_135 rfl (fun h11 => ?_) (fun h11 => ?_)
          · rw [if_neg h11] at h
            refine r_ic c323_142 kI0 ?_
            refine r_iadd c323_143 ?_
            refine is9 c323_144 rfl ?_
            refine ii10 c323_146 kI1 rfl ?_
            refine r_go (t := 64) c323_149 rfl ?_
            exact ih h
          · rw [if_pos h11] at h
            refine r_ic c323_138 kI1 ?_
            refine r_go (t := 143) c323_139 rfl ?_
            refine r_iadd c323_143 ?_
            refine is9 c323_144 rfl ?_
            refine ii10 c323_146 kI1 rfl ?_
            refine r_go (t := 64) c323_149 rfl ?_
            exact ih h
      · rw [if_neg h8] at h
        refine al0 c323_89 ?_
        refine r_gi g323_90 (by first | rfl | assumption) rfl ?_
        refine il7 c323_93 ?_
        refine r_icge (t := 105) c323_95 rfl (fun h12 => ?_) (fun h12 => ?_)
        · rw [if_neg (Int.not_lt.mpr h12)] at h
          refine il7 c323_105 ?_
          refine is7 c323_107 rfl ?_
          refine al0 c323_109 ?_
          refine r_gi g323_110 (by first | rfl | assumption) rfl ?_
          refine il8 c323_113 ?_
          refine r_icle (t := 125) c323_115 rfl (fun h13 => ?_) (fun h13 => ?_)
          · rw [if_neg (Int.not_lt.mpr h13)] at h
            refine il8 c323_125 ?_
            refine is8 c323_127 rfl ?_
            refine il9 c323_129 ?_
            refine al0 c323_131 ?_
            refine r_gi g323_132 (by first | rfl | assumption) rfl ?_
            refine r_ifne (t := 142) c323_135 rfl (fun h14 => ?_) (fun h14 => ?_)
            · rw [if_neg h14] at h
              refine r_ic c323_142 kI0 ?_
              refine r_iadd c323_143 ?_
              refine is9 c323_144 rfl ?_
              refine ii10 c323_146 kI1 rfl ?_
              refine r_go (t := 64) c323_149 rfl ?_
              exact ih h
            · rw [if_pos h14] at h
              refine r_ic c323_138 kI1 ?_
              refine r_go (t := 143) c323_139 rfl ?_
              refine r_iadd c323_143 ?_
              refine is9 c323_144 rfl ?_
              refine ii10 c323_146 kI1 rfl ?_
              refine r_go (t := 64) c323_149 rfl ?_
              exact ih h
          · rw [if_pos h13] at h
            refine al0 c323_118 ?_
            refine r_gi g323_119 (by first | rfl | assumption) rfl ?_
            refine r_go (t := 127) c323_122 rfl ?_
            refine is8 c323_127 rfl ?_
            refine il9 c323_129 ?_
            refine al0 c323_131 ?_
            refine r_gi g323_132 (by first | rfl | assumption) rfl ?_
            refine r_ifne (t := 142) c323_135 rfl (fun h15 => ?_) (fun h15 => ?_)
            · rw [if_neg h15] at h
              refine r_ic c323_142 kI0 ?_
              refine r_iadd c323_143 ?_
              refine is9 c323_144 rfl ?_
              refine ii10 c323_146 kI1 rfl ?_
              refine r_go (t := 64) c323_149 rfl ?_
              exact ih h
            · rw [if_pos h15] at h
              refine r_ic c323_138 kI1 ?_
              refine r_go (t := 143) c323_139 rfl ?_
              refine r_iadd c323_143 ?_
              refine is9 c323_144 rfl ?_
              refine ii10 c323_146 kI1 rfl ?_
              refine r_go (t := 64) c323_149 rfl ?_
              exact ih h
        · rw [if_pos h12] at h
          refine al0 c323_98 ?_
          refine r_gi g323_99 (by first | rfl | assumption) rfl ?_
          refine r_go (t := 107) c323_102 rfl ?_
          refine is7 c323_107 rfl ?_
          refine al0 c323_109 ?_
          refine r_gi g323_110 (by first | rfl | assumption) rfl ?_
          refine il8 c323_113 ?_
          refine r_icle (t := 125) c323_115 rfl (fun h16 => ?_) (fun h16 => ?_)
          · rw [if_neg (Int.not_lt.mpr h16)] at h
            refine il8 c323_125 ?_
            refine is8 c323_127 rfl ?_
            refine il9 c323_129 ?_
            refine al0 c323_131 ?_
            refine r_gi g323_132 (by first | rfl | assumption) rfl ?_
            refine r_ifne (t := 142) c323_135 rfl (fun h17 => ?_) (fun h17 => ?_)
            · rw [if_neg h17] at h
              refine r_ic c323_142 kI0 ?_
              refine r_iadd c323_143 ?_
              refine is9 c323_144 rfl ?_
              refine ii10 c323_146 kI1 rfl ?_
              refine r_go (t := 64) c323_149 rfl ?_
              exact ih h
            · rw [if_pos h17] at h
              refine r_ic c323_138 kI1 ?_
              refine r_go (t := 143) c323_139 rfl ?_
              refine r_iadd c323_143 ?_
              refine is9 c323_144 rfl ?_
              refine ii10 c323_146 kI1 rfl ?_
              refine r_go (t := 64) c323_149 rfl ?_
              exact ih h
          · rw [if_pos h16] at h
            refine al0 c323_118 ?_
            refine r_gi g323_119 (by first | rfl | assumption) rfl ?_
            refine r_go (t := 127) c323_122 rfl ?_
            refine is8 c323_127 rfl ?_
            refine il9 c323_129 ?_
            refine al0 c323_131 ?_
            refine r_gi g323_132 (by first | rfl | assumption) rfl ?_
            refine r_ifne (t := 142) c323_135 rfl (fun h18 => ?_) (fun h18 => ?_)
            · rw [if_neg h18] at h
              refine r_ic c323_142 kI0 ?_
              refine r_iadd c323_143 ?_
              refine is9 c323_144 rfl ?_
              refine ii10 c323_146 kI1 rfl ?_
              refine r_go (t := 64) c323_149 rfl ?_
              exact ih h
            · rw [if_pos h18] at h
              refine r_ic c323_138 kI1 ?_
              refine r_go (t := 143) c323_139 rfl ?_
              refine r_iadd c323_143 ?_
              refine is9 c323_144 rfl ?_
              refine ii10 c323_146 kI1 rfl ?_
              refine r_go (t := 64) c323_149 rfl ?_
              exact ih h
theorem d323 {X : (Nat → Int32) × Nat} {d : Nat} {I : Nat → Nat → Int32} {J : Nat → Nat → Int64} {P : Nat → Nat → Value} {e r k r2 k2 : Nat} {x1 : Int32} {x2 : Int32} {x3 : Int32} {x4 : Int32} {x5 : Int32} {x6 : Int32} {q : Int32 × (Nat → Nat → Int32) × (Nat → Nat → Int64)} (hw : pm_W P r k r2 k2)  (h : f323 x1 x2 x3 x4 x5 x6 I J = some q) : pm_Fn X (d + 8) 323 1 [.ref 127, .int x1, .int x2, .int x3, .int x4, .int x5, .int x6] (I, J, P, pm_T0, e) (.inl (some (.int q.1))) (q.2.1, q.2.2, P, pm_T0, e) := by
  obtain ⟨hp, hw1, hw2, hw3, hw4, hw5, hw6, hw7, hw8, hw9, hw10, hw11⟩ := id hw
  have hwa := hw5.1
  have hwb := hw6.1
  have hwc := hw7.1
  have hwd := hw8.1
  unfold f323 at h
  refine fn_v rc323 (c := 12) (nf := 59) (by first | rfl | assumption) ml323 rfl rfl rfl rfl ?_
  refine al0 c323_0 ?_
  refine r_ic c323_1 kI0 ?_
  refine w_pi p323_2 (by first | rfl | assumption) rfl ?_
  rw [pm_lt_eq] at h
  generalize pm_w I 127 0 0 = I1 at h ⊢
  refine al0 c323_5 ?_
  refine il2 c323_6 ?_
  refine r_ic c323_7 kI1 ?_
  refine r_bi c323_8 kB20 ?_
  refine cv3 q323_10 (d241 hw rfl) rfl ?_
  refine r_ifeq (t := 41) c323_13 rfl (fun h2 => ?_) (fun h2 => ?_)
  · rw [if_neg (pm_bf h2)] at h
    refine r_ic c323_41 kI0 ?_
    refine r_ic c323_42 kI1 ?_
    refine r_ic c323_43 kI1 ?_
    obtain ⟨⟨ov3, I4, J5⟩, e6, h⟩ := pm_bd_sp h
    dsimp only at h
    refine cv4 q323_44 (v := .int (pm_bi ov3)) (μ1 := (I4, J5, P, pm_T0, e)) (d222 hw e6) rfl ?_
    refine r_ifne (t := 52) c323_47 rfl (fun h7 => ?_) (fun h7 => ?_)
    · rw [if_pos (pm_bt h7)] at h
      refine r_ic c323_52 kIm1 ?_
      refine is7 c323_53 rfl ?_
      refine r_ic c323_55 kI0 ?_
      refine is8 c323_56 rfl ?_
      refine r_ic c323_58 kI0 ?_
      refine is9 c323_59 rfl ?_
      refine r_ic c323_61 kI0 ?_
      refine is10 c323_62 rfl ?_
      exact d323_64 hw pm_FU h
    · rw [if_neg (pm_bf h7)] at h
      refine r_ic c323_50 kI0 ?_
      cases h
      exact r_ri c323_51 rt323 rfl rfl
  · rw [if_pos (pm_bt h2)] at h
    refine il3 c323_16 ?_
    refine il4 c323_17 ?_
    refine il5 c323_19 ?_
    refine cv3 q323_21 (d320 hw rfl) rfl ?_
    refine r_ifeq (t := 41) c323_24 rfl (fun h8 => ?_) (fun h8 => ?_)
    · rw [if_neg (pm_bf h8)] at h
      refine r_ic c323_41 kI0 ?_
      refine r_ic c323_42 kI1 ?_
      refine r_ic c323_43 kI1 ?_
      obtain ⟨⟨ov9, I10, J11⟩, e12, h⟩ := pm_bd_sp h
      dsimp only at h
      refine cv4 q323_44 (v := .int (pm_bi ov9)) (μ1 := (I10, J11, P, pm_T0, e)) (d222 hw e12) rfl ?_
      refine r_ifne (t := 52) c323_47 rfl (fun h13 => ?_) (fun h13 => ?_)
      · rw [if_pos (pm_bt h13)] at h
        refine r_ic c323_52 kIm1 ?_
        refine is7 c323_53 rfl ?_
        refine r_ic c323_55 kI0 ?_
        refine is8 c323_56 rfl ?_
        refine r_ic c323_58 kI0 ?_
        refine is9 c323_59 rfl ?_
        refine r_ic c323_61 kI0 ?_
        refine is10 c323_62 rfl ?_
        exact d323_64 hw pm_FU h
      · rw [if_neg (pm_bf h13)] at h
        refine r_ic c323_50 kI0 ?_
        cases h
        exact r_ri c323_51 rt323 rfl rfl
    · rw [if_pos (pm_bt h8)] at h
      refine il6 c323_27 ?_
      refine r_ic c323_29 kI0 ?_
      refine r_ic c323_30 kI2 ?_
      refine cv3 q323_31 (d241 hw rfl) rfl ?_
      refine r_ifeq (t := 41) c323_34 rfl (fun h14 => ?_) (fun h14 => ?_)
      · rw [if_neg (pm_bf h14)] at h
        refine r_ic c323_41 kI0 ?_
        refine r_ic c323_42 kI1 ?_
        refine r_ic c323_43 kI1 ?_
        obtain ⟨⟨ov15, I16, J17⟩, e18, h⟩ := pm_bd_sp h
        dsimp only at h
        refine cv4 q323_44 (v := .int (pm_bi ov15)) (μ1 := (I16, J17, P, pm_T0, e)) (d222 hw e18) rfl ?_
        refine r_ifne (t := 52) c323_47 rfl (fun h19 => ?_) (fun h19 => ?_)
        · rw [if_pos (pm_bt h19)] at h
          refine r_ic c323_52 kIm1 ?_
          refine is7 c323_53 rfl ?_
          refine r_ic c323_55 kI0 ?_
          refine is8 c323_56 rfl ?_
          refine r_ic c323_58 kI0 ?_
          refine is9 c323_59 rfl ?_
          refine r_ic c323_61 kI0 ?_
          refine is10 c323_62 rfl ?_
          exact d323_64 hw pm_FU h
        · rw [if_neg (pm_bf h19)] at h
          refine r_ic c323_50 kI0 ?_
          cases h
          exact r_ri c323_51 rt323 rfl rfl
      · rw [if_pos (pm_bt h14)] at h
        refine r_ic c323_37 kI1 ?_
        refine r_go (t := 42) c323_38 rfl ?_
        refine r_ic c323_42 kI1 ?_
        refine r_ic c323_43 kI1 ?_
        obtain ⟨⟨ov20, I21, J22⟩, e23, h⟩ := pm_bd_sp h
        dsimp only at h
        refine cv4 q323_44 (v := .int (pm_bi ov20)) (μ1 := (I21, J22, P, pm_T0, e)) (d222 hw e23) rfl ?_
        refine r_ifne (t := 52) c323_47 rfl (fun h24 => ?_) (fun h24 => ?_)
        · rw [if_pos (pm_bt h24)] at h
          refine r_ic c323_52 kIm1 ?_
          refine is7 c323_53 rfl ?_
          refine r_ic c323_55 kI0 ?_
          refine is8 c323_56 rfl ?_
          refine r_ic c323_58 kI0 ?_
          refine is9 c323_59 rfl ?_
          refine r_ic c323_61 kI0 ?_
          refine is10 c323_62 rfl ?_
          exact d323_64 hw pm_FU h
        · rw [if_neg (pm_bf h24)] at h
          refine r_ic c323_50 kI0 ?_
          cases h
          exact r_ri c323_51 rt323 rfl rfl
def f326_3 (a2 : Nat) (n2 : Nat) : Nat → Int32 → Int32 → Int32 → Int32 → (Nat → Nat → Int32) → (Nat → Nat → Int64) → Option (Int32 × (Nat → Nat → Int32) × (Nat → Nat → Int64))
  | 0, _, _, _, _, _, _ => none
  | fu + 1, y1, y3, y4, y5, I, J => (if y5.toInt < y3.toInt then (if y4 = 0 then pm_gd (pm_in (y1 + y5) 3369) (pm_gd (pm_in y5 n2) (pm_lt (pm_w I a2 (y5).toNatClampNeg (I 156 (y1 + y5).toNatClampNeg)) (fun I5 => f326_3 a2 n2 fu y1 y3 y4 (y5 + 1) I5 J))) else pm_gd (pm_in y5 n2) (pm_gd (pm_in (y1 + y5) 3369) (pm_lt (pm_w I 156 (y1 + y5).toNatClampNeg (I a2 (y5).toNatClampNeg)) (fun I8 => f326_3 a2 n2 fu y1 y3 y4 (y5 + 1) I8 J)))) else some (y1 + y3, I, J))
def f326 (x1 : Int32) (a2 : Nat) (n2 : Nat) (x3 : Int32) (x4 : Int32) (I : Nat → Nat → Int32) (J : Nat → Nat → Int64) : Option (Int32 × (Nat → Nat → Int32) × (Nat → Nat → Int64)) := f326_3 a2 n2 pm_FU x1 x3 x4 0 I J
theorem d326_3 {X : (Nat → Int32) × Nat} {d : Nat} {P : Nat → Nat → Value} {e r k r2 k2 : Nat} {a2 : Nat} {n2 : Nat} (hw : pm_W P r k r2 k2) (hy0 : pm_T0[a2]? = some (20, n2)) (hy1 : n2 < 2 ^ 31) : ∀ (fu : Nat) {y1 y3 y4 y5 : Int32} {I : Nat → Nat → Int32} {J : Nat → Nat → Int64} {q : Int32 × (Nat → Nat → Int32) × (Nat → Nat → Int64)} (h : f326_3 a2 n2 fu y1 y3 y4 y5 I J = some q), pm_Fx X (d) 326 3 [.ref 127, .int y1, .ref a2, .int y3, .int y4, .int y5] [] (I, J, P, pm_T0, e) (.inl (some (.int q.1))) (q.2.1, q.2.2, P, pm_T0, e) := by
  obtain ⟨hp, hw1, hw2, hw3, hw4, hw5, hw6, hw7, hw8, hw9, hw10, hw11⟩ := id hw
  have hwa := hw5.1
  have hwb := hw6.1
  have hwc := hw7.1
  have hwd := hw8.1
  intro fu
  induction fu with
  | zero => intro y1 y3 y4 y5 I J q h; cases h
  | succ fu ih =>
    intro y1 y3 y4 y5 I J q h
    rw [f326_3] at h
    refine il5 c326_3 ?_
    refine il3 c326_5 ?_
    refine r_icge (t := 49) c326_6 rfl (fun h1 => ?_) (fun h1 => ?_)
    · rw [if_neg (Int.not_lt.mpr h1)] at h
      refine il1 c326_49 ?_
      refine il3 c326_50 ?_
      refine r_iadd c326_51 ?_
      cases h
      exact r_ri c326_52 rt326 rfl rfl
    · rw [if_pos h1] at h
      refine il4 c326_9 ?_
      refine r_ifeq (t := 30) c326_11 rfl (fun h2 => ?_) (fun h2 => ?_)
      · rw [if_pos h2] at h
        refine al2 c326_30 ?_
        refine il5 c326_31 ?_
        refine al0 c326_33 ?_
        refine r_gr g326_34 rfl rfl (hp _ _ _ rfl) ?_
        refine il1 c326_37 ?_
        refine il5 c326_38 ?_
        refine r_iadd c326_40 ?_
        obtain ⟨gd3, h⟩ := pm_gd_sp h
        refine w_ia c326_41 (by first | rfl | assumption) gd3 ?_
        obtain ⟨gd4, h⟩ := pm_gd_sp h
        refine w_ist c326_42 (by first | rfl | assumption) gd4 ?_
        rw [pm_lt_eq] at h
        generalize pm_w I a2 (y5).toNatClampNeg (I 156 (y1 + y5).toNatClampNeg) = I5 at h ⊢
        refine ii5 c326_43 kI1 rfl ?_
        refine r_go (t := 3) c326_46 rfl ?_
        exact ih h
      · rw [if_neg h2] at h
        refine al0 c326_14 ?_
        refine r_gr g326_15 rfl rfl (hp _ _ _ rfl) ?_
        refine il1 c326_18 ?_
        refine il5 c326_19 ?_
        refine r_iadd c326_21 ?_
        refine al2 c326_22 ?_
        refine il5 c326_23 ?_
        obtain ⟨gd6, h⟩ := pm_gd_sp h
        refine w_ia c326_25 (by first | rfl | assumption) gd6 ?_
        obtain ⟨gd7, h⟩ := pm_gd_sp h
        refine w_ist c326_26 (by first | rfl | assumption) gd7 ?_
        rw [pm_lt_eq] at h
        generalize pm_w I 156 (y1 + y5).toNatClampNeg (I a2 (y5).toNatClampNeg) = I8 at h ⊢
        refine r_go (t := 43) c326_27 rfl ?_
        refine ii5 c326_43 kI1 rfl ?_
        refine r_go (t := 3) c326_46 rfl ?_
        exact ih h
theorem d326 {X : (Nat → Int32) × Nat} {d : Nat} {I : Nat → Nat → Int32} {J : Nat → Nat → Int64} {P : Nat → Nat → Value} {e r k r2 k2 : Nat} {x1 : Int32} {a2 : Nat} {n2 : Nat} {x3 : Int32} {x4 : Int32} {q : Int32 × (Nat → Nat → Int32) × (Nat → Nat → Int64)} (hw : pm_W P r k r2 k2) (hy0 : pm_T0[a2]? = some (20, n2)) (hy1 : n2 < 2 ^ 31) (h : f326 x1 a2 n2 x3 x4 I J = some q) : pm_Fn X (d) 326 1 [.ref 127, .int x1, .ref a2, .int x3, .int x4] (I, J, P, pm_T0, e) (.inl (some (.int q.1))) (q.2.1, q.2.2, P, pm_T0, e) := by
  obtain ⟨hp, hw1, hw2, hw3, hw4, hw5, hw6, hw7, hw8, hw9, hw10, hw11⟩ := id hw
  have hwa := hw5.1
  have hwb := hw6.1
  have hwc := hw7.1
  have hwd := hw8.1
  unfold f326 at h
  refine fn_v rc326 (c := 12) (nf := 59) (by first | rfl | assumption) ml326 rfl rfl rfl rfl ?_
  refine r_ic c326_0 kI0 ?_
  refine is5 c326_1 rfl ?_
  exact d326_3 hw hy0 hy1 pm_FU h
def f325 (x1 : Int32) (x2 : Int32) (I : Nat → Nat → Int32) (J : Nat → Nat → Int64) : Option (Unit × (Nat → Nat → Int32) × (Nat → Nat → Int64)) := (f326 (1123 * x1) 143 66 66 x2 I J).bind (fun (ov1, I2, J3) => (f326 ov1 145 1056 1056 x2 I2 J3).bind (fun (ov5, I6, J7) => (if x2 = 0 then pm_gd (pm_in ov5 3369) (pm_lt (pm_w I6 127 32 (I6 156 (ov5).toNatClampNeg)) (fun I11 => some ((), I11, J7))) else pm_gd (pm_in ov5 3369) (pm_lt (pm_w I6 156 (ov5).toNatClampNeg (I6 127 32)) (fun I13 => some ((), I13, J7))))))
theorem d325 {X : (Nat → Int32) × Nat} {d : Nat} {I : Nat → Nat → Int32} {J : Nat → Nat → Int64} {P : Nat → Nat → Value} {e r k r2 k2 : Nat} {x1 : Int32} {x2 : Int32} {q : Unit × (Nat → Nat → Int32) × (Nat → Nat → Int64)} (hw : pm_W P r k r2 k2)  (h : f325 x1 x2 I J = some q) : pm_Fn X (d + 1) 325 1 [.ref 127, .int x1, .int x2] (I, J, P, pm_T0, e) (.inl none) (q.2.1, q.2.2, P, pm_T0, e) := by
  obtain ⟨hp, hw1, hw2, hw3, hw4, hw5, hw6, hw7, hw8, hw9, hw10, hw11⟩ := id hw
  have hwa := hw5.1
  have hwb := hw6.1
  have hwc := hw7.1
  have hwd := hw8.1
  unfold f325 at h
  refine fn_v rc325 (c := 12) (nf := 59) (by first | rfl | assumption) ml325 rfl rfl rfl rfl ?_
  refine al0 c325_0 ?_
  refine r_si c325_1 kS1123 ?_
  refine il1 c325_4 ?_
  refine r_imul c325_5 ?_
  refine al0 c325_6 ?_
  refine r_gr g325_7 rfl rfl (hp _ _ _ rfl) ?_
  refine r_bi c325_10 kB66 ?_
  refine il2 c325_12 ?_
  obtain ⟨⟨ov1, I2, J3⟩, e4, h⟩ := pm_bd_sp h
  dsimp only at h
  refine cv5 q325_13 (v := .int ov1) (μ1 := (I2, J3, P, pm_T0, e)) (d326 hw (by first | rfl | assumption | decide) (by first | rfl | assumption | decide) e4) rfl ?_
  refine is3 c325_16 rfl ?_
  refine al0 c325_17 ?_
  refine il3 c325_18 ?_
  refine al0 c325_19 ?_
  refine r_gr g325_20 rfl rfl (hp _ _ _ rfl) ?_
  refine r_si c325_23 kS1056 ?_
  refine il2 c325_26 ?_
  obtain ⟨⟨ov5, I6, J7⟩, e8, h⟩ := pm_bd_sp h
  dsimp only at h
  refine cv5 q325_27 (v := .int ov5) (μ1 := (I6, J7, P, pm_T0, e)) (d326 hw (by first | rfl | assumption | decide) (by first | rfl | assumption | decide) e8) rfl ?_
  refine is3 c325_30 rfl ?_
  refine il2 c325_31 ?_
  refine r_ifeq (t := 48) c325_32 rfl (fun h9 => ?_) (fun h9 => ?_)
  · rw [if_pos h9] at h
    refine al0 c325_48 ?_
    refine al0 c325_49 ?_
    refine r_gr g325_50 rfl rfl (hp _ _ _ rfl) ?_
    refine il3 c325_53 ?_
    obtain ⟨gd10, h⟩ := pm_gd_sp h
    refine w_ia c325_54 (by first | rfl | assumption) gd10 ?_
    refine w_pi p325_55 (by first | rfl | assumption) rfl ?_
    rw [pm_lt_eq] at h
    generalize pm_w I6 127 32 (I6 156 (ov5).toNatClampNeg) = I11 at h ⊢
    cases h
    exact r_rv c325_58 rt325 rfl
  · rw [if_neg h9] at h
    refine al0 c325_35 ?_
    refine r_gr g325_36 rfl rfl (hp _ _ _ rfl) ?_
    refine il3 c325_39 ?_
    refine al0 c325_40 ?_
    refine r_gi g325_41 (by first | rfl | assumption) rfl ?_
    obtain ⟨gd12, h⟩ := pm_gd_sp h
    refine w_ist c325_44 (by first | rfl | assumption) gd12 ?_
    rw [pm_lt_eq] at h
    generalize pm_w I6 156 (ov5).toNatClampNeg (I6 127 32) = I13 at h ⊢
    refine r_go (t := 58) c325_45 rfl ?_
    cases h
    exact r_rv c325_58 rt325 rfl
def f324  (I : Nat → Nat → Int32) (J : Nat → Nat → Int64) : Option (Int32 × (Nat → Nat → Int32) × (Nat → Nat → Int64)) := pm_lt (pm_w I 127 0 0) (fun I1 => (if (I1 127 58) = 3 then some ((-1), I1, J) else (f325 (I1 127 58) 1 I1 J).bind (fun (ov3, I4, J5) => pm_lt (pm_w I4 127 58 ((I4 127 58) + 1)) (fun I7 => some (I7 127 58, I7, J5)))))
theorem d324 {X : (Nat → Int32) × Nat} {d : Nat} {I : Nat → Nat → Int32} {J : Nat → Nat → Int64} {P : Nat → Nat → Value} {e r k r2 k2 : Nat}  {q : Int32 × (Nat → Nat → Int32) × (Nat → Nat → Int64)} (hw : pm_W P r k r2 k2)  (h : f324  I J = some q) : pm_Fn X (d + 2) 324 1 [.ref 127] (I, J, P, pm_T0, e) (.inl (some (.int q.1))) (q.2.1, q.2.2, P, pm_T0, e) := by
  obtain ⟨hp, hw1, hw2, hw3, hw4, hw5, hw6, hw7, hw8, hw9, hw10, hw11⟩ := id hw
  have hwa := hw5.1
  have hwb := hw6.1
  have hwc := hw7.1
  have hwd := hw8.1
  unfold f324 at h
  refine fn_v rc324 (c := 12) (nf := 59) (by first | rfl | assumption) ml324 rfl rfl rfl rfl ?_
  refine al0 c324_0 ?_
  refine r_ic c324_1 kI0 ?_
  refine w_pi p324_2 (by first | rfl | assumption) rfl ?_
  rw [pm_lt_eq] at h
  generalize pm_w I 127 0 0 = I1 at h ⊢
  refine al0 c324_5 ?_
  refine r_gi g324_6 (by first | rfl | assumption) rfl ?_
  refine r_ic c324_9 kI3 ?_
  refine r_icne (t := 15) c324_10 rfl (fun h2 => ?_) (fun h2 => ?_)
  · rw [if_neg h2] at h
    refine al0 c324_15 ?_
    refine al0 c324_16 ?_
    refine r_gi g324_17 (by first | rfl | assumption) rfl ?_
    refine r_ic c324_20 kI1 ?_
    obtain ⟨⟨ov3, I4, J5⟩, e6, h⟩ := pm_bd_sp h
    dsimp only at h
    refine cz3 q324_21 (μ1 := (I4, J5, P, pm_T0, e)) (d325 hw e6) rfl ?_
    refine al0 c324_24 ?_
    refine r_dpr c324_25 ?_
    refine r_gi g324_26 (by first | rfl | assumption) rfl ?_
    refine r_ic c324_29 kI1 ?_
    refine r_iadd c324_30 ?_
    refine w_pi p324_31 (by first | rfl | assumption) rfl ?_
    rw [pm_lt_eq] at h
    generalize pm_w I4 127 58 ((I4 127 58) + 1) = I7 at h ⊢
    refine al0 c324_34 ?_
    refine r_gi g324_35 (by first | rfl | assumption) rfl ?_
    cases h
    exact r_ri c324_38 rt324 rfl rfl
  · rw [if_pos h2] at h
    refine r_ic c324_13 kIm1 ?_
    cases h
    exact r_ri c324_14 rt324 rfl rfl
def f327  (I : Nat → Nat → Int32) (J : Nat → Nat → Int64) : Option (Int32 × (Nat → Nat → Int32) × (Nat → Nat → Int64)) := pm_lt (pm_w I 127 0 0) (fun I1 => (if (I1 127 58) = 0 then some ((-1), I1, J) else pm_lt (pm_w I1 127 58 ((I1 127 58) - 1)) (fun I3 => (f325 (I3 127 58) 0 I3 J).bind (fun (ov4, I5, J6) => pm_lt (pm_w I5 127 33 0) (fun I8 => some (I8 127 58, I8, J6))))))
theorem d327 {X : (Nat → Int32) × Nat} {d : Nat} {I : Nat → Nat → Int32} {J : Nat → Nat → Int64} {P : Nat → Nat → Value} {e r k r2 k2 : Nat}  {q : Int32 × (Nat → Nat → Int32) × (Nat → Nat → Int64)} (hw : pm_W P r k r2 k2)  (h : f327  I J = some q) : pm_Fn X (d + 2) 327 1 [.ref 127] (I, J, P, pm_T0, e) (.inl (some (.int q.1))) (q.2.1, q.2.2, P, pm_T0, e) := by
  obtain ⟨hp, hw1, hw2, hw3, hw4, hw5, hw6, hw7, hw8, hw9, hw10, hw11⟩ := id hw
  have hwa := hw5.1
  have hwb := hw6.1
  have hwc := hw7.1
  have hwd := hw8.1
  unfold f327 at h
  refine fn_v rc327 (c := 12) (nf := 59) (by first | rfl | assumption) ml327 rfl rfl rfl rfl ?_
  refine al0 c327_0 ?_
  refine r_ic c327_1 kI0 ?_
  refine w_pi p327_2 (by first | rfl | assumption) rfl ?_
  rw [pm_lt_eq] at h
  generalize pm_w I 127 0 0 = I1 at h ⊢
  refine al0 c327_5 ?_
  refine r_gi g327_6 (by first | rfl | assumption) rfl ?_
  refine r_ifne (t := 14) c327_9 rfl (fun h2 => ?_) (fun h2 => ?_)
  · rw [if_neg h2] at h
    refine al0 c327_14 ?_
    refine r_dpr c327_15 ?_
    refine r_gi g327_16 (by first | rfl | assumption) rfl ?_
    refine r_ic c327_19 kI1 ?_
    refine r_isub c327_20 ?_
    refine w_pi p327_21 (by first | rfl | assumption) rfl ?_
    rw [pm_lt_eq] at h
    generalize pm_w I1 127 58 ((I1 127 58) - 1) = I3 at h ⊢
    refine al0 c327_24 ?_
    refine al0 c327_25 ?_
    refine r_gi g327_26 (by first | rfl | assumption) rfl ?_
    refine r_ic c327_29 kI0 ?_
    obtain ⟨⟨ov4, I5, J6⟩, e7, h⟩ := pm_bd_sp h
    dsimp only at h
    refine cz3 q327_30 (μ1 := (I5, J6, P, pm_T0, e)) (d325 hw e7) rfl ?_
    refine al0 c327_33 ?_
    refine r_ic c327_34 kI0 ?_
    refine w_pi p327_35 (by first | rfl | assumption) rfl ?_
    rw [pm_lt_eq] at h
    generalize pm_w I5 127 33 0 = I8 at h ⊢
    refine al0 c327_38 ?_
    refine r_gi g327_39 (by first | rfl | assumption) rfl ?_
    cases h
    exact r_ri c327_42 rt327 rfl rfl
  · rw [if_pos h2] at h
    refine r_ic c327_12 kIm1 ?_
    cases h
    exact r_ri c327_13 rt327 rfl rfl
def f328 (x1 : Int32) (I : Nat → Nat → Int32) (J : Nat → Nat → Int64) : Option (Int32 × (Nat → Nat → Int32) × (Nat → Nat → Int64)) := pm_lt (pm_w I 127 0 0) (fun I1 => (if (v241 x1 0 1 I1) = true then pm_gd (pm_in x1 2) (some (I1 128 (x1).toNatClampNeg, I1, J)) else some ((-1), I1, J)))
theorem d328 {X : (Nat → Int32) × Nat} {d : Nat} {I : Nat → Nat → Int32} {J : Nat → Nat → Int64} {P : Nat → Nat → Value} {e r k r2 k2 : Nat} {x1 : Int32} {q : Int32 × (Nat → Nat → Int32) × (Nat → Nat → Int64)} (hw : pm_W P r k r2 k2)  (h : f328 x1 I J = some q) : pm_Fn X (d + 1) 328 1 [.ref 127, .int x1] (I, J, P, pm_T0, e) (.inl (some (.int q.1))) (q.2.1, q.2.2, P, pm_T0, e) := by
  obtain ⟨hp, hw1, hw2, hw3, hw4, hw5, hw6, hw7, hw8, hw9, hw10, hw11⟩ := id hw
  have hwa := hw5.1
  have hwb := hw6.1
  have hwc := hw7.1
  have hwd := hw8.1
  unfold f328 at h
  refine fn_v rc328 (c := 12) (nf := 59) (by first | rfl | assumption) ml328 rfl rfl rfl rfl ?_
  refine al0 c328_0 ?_
  refine r_ic c328_1 kI0 ?_
  refine w_pi p328_2 (by first | rfl | assumption) rfl ?_
  rw [pm_lt_eq] at h
  generalize pm_w I 127 0 0 = I1 at h ⊢
  refine il1 c328_5 ?_
  refine r_ic c328_6 kI0 ?_
  refine r_ic c328_7 kI1 ?_
  refine cv3 q328_8 (d241 hw rfl) rfl ?_
  refine r_ifeq (t := 23) c328_11 rfl (fun h2 => ?_) (fun h2 => ?_)
  · rw [if_neg (pm_bf h2)] at h
    refine r_ic c328_23 kIm1 ?_
    cases h
    exact r_ri c328_24 rt328 rfl rfl
  · rw [if_pos (pm_bt h2)] at h
    refine al0 c328_14 ?_
    refine r_gr g328_15 rfl rfl (hp _ _ _ rfl) ?_
    refine il1 c328_18 ?_
    obtain ⟨gd3, h⟩ := pm_gd_sp h
    refine w_ia c328_19 (by first | rfl | assumption) gd3 ?_
    refine r_go (t := 24) c328_20 rfl ?_
    cases h
    exact r_ri c328_24 rt328 rfl rfl
def f329 (x1 : Int32) (I : Nat → Nat → Int32) (J : Nat → Nat → Int64) : Option (Int32 × (Nat → Nat → Int32) × (Nat → Nat → Int64)) := pm_lt (pm_w I 127 0 0) (fun I1 => (if x1 = 0 then some (I1 127 58, I1, J) else (if x1 = 1 then some (I1 127 2, I1, J) else (if x1 = 2 then some (I1 127 32, I1, J) else some ((-1), I1, J)))))
theorem d329 {X : (Nat → Int32) × Nat} {d : Nat} {I : Nat → Nat → Int32} {J : Nat → Nat → Int64} {P : Nat → Nat → Value} {e r k r2 k2 : Nat} {x1 : Int32} {q : Int32 × (Nat → Nat → Int32) × (Nat → Nat → Int64)} (hw : pm_W P r k r2 k2)  (h : f329 x1 I J = some q) : pm_Fn X (d) 329 1 [.ref 127, .int x1] (I, J, P, pm_T0, e) (.inl (some (.int q.1))) (q.2.1, q.2.2, P, pm_T0, e) := by
  obtain ⟨hp, hw1, hw2, hw3, hw4, hw5, hw6, hw7, hw8, hw9, hw10, hw11⟩ := id hw
  have hwa := hw5.1
  have hwb := hw6.1
  have hwc := hw7.1
  have hwd := hw8.1
  unfold f329 at h
  refine fn_v rc329 (c := 12) (nf := 59) (by first | rfl | assumption) ml329 rfl rfl rfl rfl ?_
  refine al0 c329_0 ?_
  refine r_ic c329_1 kI0 ?_
  refine w_pi p329_2 (by first | rfl | assumption) rfl ?_
  rw [pm_lt_eq] at h
  generalize pm_w I 127 0 0 = I1 at h ⊢
  refine il1 c329_5 ?_
  refine r_ifne (t := 16) c329_6 rfl (fun h2 => ?_) (fun h2 => ?_)
  · rw [if_neg h2] at h
    refine il1 c329_16 ?_
    refine r_ic c329_17 kI1 ?_
    refine r_icne (t := 28) c329_18 rfl (fun h3 => ?_) (fun h3 => ?_)
    · rw [if_neg h3] at h
      refine il1 c329_28 ?_
      refine r_ic c329_29 kI2 ?_
      refine r_icne (t := 40) c329_30 rfl (fun h4 => ?_) (fun h4 => ?_)
      · rw [if_neg h4] at h
        refine r_ic c329_40 kIm1 ?_
        cases h
        exact r_ri c329_41 rt329 rfl rfl
      · rw [if_pos h4] at h
        refine al0 c329_33 ?_
        refine r_gi g329_34 (by first | rfl | assumption) rfl ?_
        refine r_go (t := 41) c329_37 rfl ?_
        cases h
        exact r_ri c329_41 rt329 rfl rfl
    · rw [if_pos h3] at h
      refine al0 c329_21 ?_
      refine r_gi g329_22 (by first | rfl | assumption) rfl ?_
      refine r_go (t := 41) c329_25 rfl ?_
      cases h
      exact r_ri c329_41 rt329 rfl rfl
  · rw [if_pos h2] at h
    refine al0 c329_9 ?_
    refine r_gi g329_10 (by first | rfl | assumption) rfl ?_
    refine r_go (t := 41) c329_13 rfl ?_
    cases h
    exact r_ri c329_41 rt329 rfl rfl
