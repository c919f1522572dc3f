/-! THE METHODS AS FUNCTIONS OF THE MEMORY (written by dec.py) -/
def f105 (a1 : Nat) (I : Nat → Nat → Int32) (J : Nat → Nat → Int64) : Option (Unit × (Nat → Nat → Int32) × (Nat → Nat → Int64)) := pm_lt (pm_cpw I a1 5 (min 66 66)) (fun I1 => some ((), I1, J))
theorem d105 {X : (Nat → Int32) × Nat} {d : Nat} {I : Nat → Nat → Int32} {J : Nat → Nat → Int64} {P : Nat → Nat → Value} {e r k r2 k2 : Nat} {a1 : Nat} {q : Unit × (Nat → Nat → Int32) × (Nat → Nat → Int64)} (hw : pm_W P r k r2 k2) (hy0 : pm_T0[a1]? = some (20, 66)) (h : f105 a1 I J = some q) : pm_Fn X (d + 2) 105 1 [.ref 4, .ref a1] (I, J, P, pm_T0, e) (.inl none) (q.2.1, q.2.2, P, pm_T0, e) := by
  obtain ⟨hp, hw1, hw2, hw3, hw4, hw5, hw6, hw7, hw8, hw9, hw10, hw11⟩ := id hw
  have hwa := hw5.1
  have hwb := hw6.1
  have hwc := hw7.1
  have hwd := hw8.1
  unfold f105 at h
  refine fn_v rc105 (c := 6) (nf := 1) (by first | rfl | assumption) ml105 rfl rfl rfl rfl ?_
  refine al1 c105_0 ?_
  refine al0 c105_1 ?_
  refine r_gr g105_2 rfl rfl (hp _ _ _ rfl) ?_
  refine cz2 q105_5 (s164 (by first | rfl | assumption) (by first | rfl | assumption) (by first | decide | assumption) (by first | decide | assumption)) rfl ?_
  rw [pm_lt_eq] at h
  generalize pm_cpw I a1 5 (min 66 66) = I1 at h ⊢
  cases h
  exact r_rv c105_8 rt105 rfl
def f2  (I : Nat → Nat → Int32) (J : Nat → Nat → Int64) : Option (Unit × (Nat → Nat → Int32) × (Nat → Nat → Int64)) := (if 0 < (I 23 3).toInt then (if (nI 16).toInt < (I 23 3).toInt then some ((), I, J) else pm_lt (pm_w I 23 3 ((I 23 3) - 1)) (fun I3 => pm_gd (pm_in (I3 23 3) 16) ((f105 (25 + (I3 23 3).toNatClampNeg) I3 J).bind (fun (ov5, I6, J7) => some ((), I6, J7))))) else some ((), I, J))
theorem d2 {X : (Nat → Int32) × Nat} {d : Nat} {I : Nat → Nat → Int32} {J : Nat → Nat → Int64} {P : Nat → Nat → Value} {e r k r2 k2 : Nat}  {q : Unit × (Nat → Nat → Int32) × (Nat → Nat → Int64)} (hw : pm_W P r k r2 k2)  (h : f2  I J = some q) : pm_Fn X (d + 3) 2 1 [.ref 23, .ref 4] (I, J, P, pm_T0, e) (.inl none) (q.2.1, q.2.2, P, pm_T0, e) := by
  obtain ⟨hp, hw1, hw2, hw3, hw4, hw5, hw6, hw7, hw8, hw9, hw10, hw11⟩ := id hw
  have hwa := hw5.1
  have hwb := hw6.1
  have hwc := hw7.1
  have hwd := hw8.1
  unfold f2 at h
  refine fn_v rc2 (c := 0) (nf := 5) (by first | rfl | assumption) ml2 rfl rfl rfl rfl ?_
  refine al0 c2_0 ?_
  refine r_gi g2_1 (by first | rfl | assumption) rfl ?_
  refine r_ifle (t := 42) c2_4 rfl (fun h1 => ?_) (fun h1 => ?_)
  · rw [if_neg (Int.not_lt.mpr h1)] at h
    cases h
    exact r_rv c2_42 rt2 rfl
  · rw [if_pos h1] at h
    refine al0 c2_7 ?_
    refine r_gi g2_8 (by first | rfl | assumption) rfl ?_
    refine al0 c2_11 ?_
    refine r_gr g2_12 rfl rfl (hp _ _ _ rfl) ?_
    refine r_len c2_15 (by first | rfl | assumption) rfl ?_
    refine r_icgt (t := 42) c2_16 rfl (fun h2 => ?_) (fun h2 => ?_)
    · rw [if_pos h2] at h
      cases h
      exact r_rv c2_42 rt2 rfl
    · rw [if_neg (Int.not_lt.mpr h2)] at h
      refine al0 c2_19 ?_
      refine r_dpr c2_20 ?_
      refine r_gi g2_21 (by first | rfl | assumption) rfl ?_
      refine r_ic c2_24 kI1 ?_
      refine r_isub c2_25 ?_
      refine w_pi p2_26 (by first | rfl | assumption) rfl ?_
      rw [pm_lt_eq] at h
      generalize pm_w I 23 3 ((I 23 3) - 1) = I3 at h ⊢
      refine al1 c2_29 ?_
      refine al0 c2_30 ?_
      refine r_gr g2_31 rfl rfl (hp _ _ _ rfl) ?_
      refine al0 c2_34 ?_
      refine r_gi g2_35 (by first | rfl | assumption) rfl ?_
      obtain ⟨gd4, h⟩ := pm_gd_sp h
      have wgd4 := pm_row24 _ (pm_in_clamp gd4)
      have xgd4 := wgd4.2
      refine w_aa c2_38 (by first | rfl | assumption) gd4 (hp _ _ _ wgd4.1) ?_
      obtain ⟨⟨ov5, I6, J7⟩, e8, h⟩ := pm_bd_sp h
      dsimp only at h
      refine cz2 q2_39 (μ1 := (I6, J7, P, pm_T0, e)) (d105 hw (by first | rfl | assumption | decide) e8) rfl ?_
      cases h
      exact r_rv c2_42 rt2 rfl
def f109 (a1 : Nat) (I : Nat → Nat → Int32) (J : Nat → Nat → Int64) : Option (Unit × (Nat → Nat → Int32) × (Nat → Nat → Int64)) := pm_lt (pm_cpw I 5 a1 (min 66 66)) (fun I1 => some ((), I1, J))
theorem d109 {X : (Nat → Int32) × Nat} {d : Nat} {I : Nat → Nat → Int32} {J : Nat → Nat → Int64} {P : Nat → Nat → Value} {e r k r2 k2 : Nat} {a1 : Nat} {q : Unit × (Nat → Nat → Int32) × (Nat → Nat → Int64)} (hw : pm_W P r k r2 k2) (hy0 : pm_T0[a1]? = some (20, 66)) (h : f109 a1 I J = some q) : pm_Fn X (d + 2) 109 1 [.ref 4, .ref a1] (I, J, P, pm_T0, e) (.inl none) (q.2.1, q.2.2, P, pm_T0, e) := by
  obtain ⟨hp, hw1, hw2, hw3, hw4, hw5, hw6, hw7, hw8, hw9, hw10, hw11⟩ := id hw
  have hwa := hw5.1
  have hwb := hw6.1
  have hwc := hw7.1
  have hwd := hw8.1
  unfold f109 at h
  refine fn_v rc109 (c := 6) (nf := 1) (by first | rfl | assumption) ml109 rfl rfl rfl rfl ?_
  refine al0 c109_0 ?_
  refine r_gr g109_1 rfl rfl (hp _ _ _ rfl) ?_
  refine al1 c109_4 ?_
  refine cz2 q109_5 (s164 (by first | rfl | assumption) (by first | rfl | assumption) (by first | decide | assumption) (by first | decide | assumption)) rfl ?_
  rw [pm_lt_eq] at h
  generalize pm_cpw I 5 a1 (min 66 66) = I1 at h ⊢
  cases h
  exact r_rv c109_8 rt109 rfl
def f4_39  : Nat → Int32 → Int32 → (Nat → Nat → Int32) → (Nat → Nat → Int64) → Option (Unit × (Nat → Nat → Int32) × (Nat → Nat → Int64))
  | 0, _, _, _, _ => none
  | fu + 1, y2, y3, I, J => (if y3.toInt < (I 23 3).toInt then (if y3.toInt < (nI 16).toInt then pm_gd (pm_in y3 16) (pm_gd (pm_in ((y2 - 16) + y3) 51) (pm_lt (pm_cpw I (25 + (y3).toNatClampNeg) (42 + ((y2 - 16) + y3).toNatClampNeg) (min 66 66)) (fun I9 => f4_39 fu y2 (y3 + 1) I9 J))) else pm_lt (pm_pw I 93 3 (I 23 4) (I 23 3)) (fun I5 => pm_lt (pm_w I5 23 4 ((I5 23 4) + 1)) (fun I6 => some ((), I6, J)))) else pm_lt (pm_pw I 93 3 (I 23 4) (I 23 3)) (fun I2 => pm_lt (pm_w I2 23 4 ((I2 23 4) + 1)) (fun I3 => some ((), I3, J))))
def f4  (I : Nat → Nat → Int32) (J : Nat → Nat → Int64) : Option (Unit × (Nat → Nat → Int32) × (Nat → Nat → Int64)) := (if (((I 23 4) * 17) + 16).toInt < (16 : Int32).toInt then some ((), I, J) else (if (((I 23 4) * 17) + 16).toInt < (nI 51).toInt then pm_gd (pm_in (((I 23 4) * 17) + 16) 51) ((f109 (42 + (((I 23 4) * 17) + 16).toNatClampNeg) I J).bind (fun (ov4, I5, J6) => f4_39 pm_FU (((I 23 4) * 17) + 16) 0 I5 J6)) else some ((), I, J)))
theorem d4_39 {X : (Nat → Int32) × Nat} {d : Nat} {P : Nat → Nat → Value} {e r k r2 k2 : Nat}  (hw : pm_W P r k r2 k2)  : ∀ (fu : Nat) {y2 y3 : Int32} {I : Nat → Nat → Int32} {J : Nat → Nat → Int64} {q : Unit × (Nat → Nat → Int32) × (Nat → Nat → Int64)} {z1 : Value} (h : f4_39 fu y2 y3 I J = some q), pm_Fx X (d + 3) 4 39 [.ref 23, z1, .int y2, .int y3] [] (I, J, P, pm_T0, e) (.inl none) (q.2.1, q.2.2, P, pm_T0, e) := by
  obtain ⟨hp, hw1, hw2, hw3, hw4, hw5, hw6, hw7, hw8, hw9, hw10, hw11⟩ := id hw
  have hwa := hw5.1
  have hwb := hw6.1
  have hwc := hw7.1
  have hwd := hw8.1
  intro fu
  induction fu with
  | zero => intro y2 y3 I J q z1 h; cases h
  | succ fu ih =>
    intro y2 y3 I J q z1 h
    rw [f4_39] at h
    refine il3 c4_39 ?_
    refine al0 c4_40 ?_
    refine r_gi g4_41 (by first | rfl | assumption) rfl ?_
    refine r_icge (t := 82) c4_44 rfl (fun h1 => ?_) (fun h1 => ?_)
    · rw [if_neg (Int.not_lt.mpr h1)] at h
      refine al0 c4_82 ?_
      refine r_gr g4_83 rfl rfl (hp _ _ _ rfl) ?_
      refine al0 c4_86 ?_
      refine r_gi g4_87 (by first | rfl | assumption) rfl ?_
      refine al0 c4_90 ?_
      refine r_gi g4_91 (by first | rfl | assumption) rfl ?_
      refine cz3 q4_94 (t159 (by first | rfl | assumption) (by first | decide | assumption)) rfl ?_
      rw [pm_lt_eq] at h
      generalize pm_pw I 93 3 (I 23 4) (I 23 3) = I2 at h ⊢
      refine al0 c4_97 ?_
      refine r_dpr c4_98 ?_
      refine r_gi g4_99 (by first | rfl | assumption) rfl ?_
      refine r_ic c4_102 kI1 ?_
      refine r_iadd c4_103 ?_
      refine w_pi p4_104 (by first | rfl | assumption) rfl ?_
      rw [pm_lt_eq] at h
      generalize pm_w I2 23 4 ((I2 23 4) + 1) = I3 at h ⊢
      cases h
      exact r_rv c4_107 rt4 rfl
    · rw [if_pos h1] at h
      refine il3 c4_47 ?_
      refine al0 c4_48 ?_
      refine r_gr g4_49 rfl rfl (hp _ _ _ rfl) ?_
      refine r_len c4_52 (by first | rfl | assumption) rfl ?_
      refine r_icge (t := 82) c4_53 rfl (fun h4 => ?_) (fun h4 => ?_)
      · rw [if_neg (Int.not_lt.mpr h4)] at h
        refine al0 c4_82 ?_
        refine r_gr g4_83 rfl rfl (hp _ _ _ rfl) ?_
        refine al0 c4_86 ?_
        refine r_gi g4_87 (by first | rfl | assumption) rfl ?_
        refine al0 c4_90 ?_
        refine r_gi g4_91 (by first | rfl | assumption) rfl ?_
        refine cz3 q4_94 (t159 (by first | rfl | assumption) (by first | decide | assumption)) rfl ?_
        rw [pm_lt_eq] at h
        generalize pm_pw I 93 3 (I 23 4) (I 23 3) = I5 at h ⊢
        refine al0 c4_97 ?_
        refine r_dpr c4_98 ?_
        refine r_gi g4_99 (by first | rfl | assumption) rfl ?_
        refine r_ic c4_102 kI1 ?_
        refine r_iadd c4_103 ?_
        refine w_pi p4_104 (by first | rfl | assumption) rfl ?_
        rw [pm_lt_eq] at h
        generalize pm_w I5 23 4 ((I5 23 4) + 1) = I6 at h ⊢
        cases h
        exact r_rv c4_107 rt4 rfl
      · rw [if_pos h4] at h
        refine al0 c4_56 ?_
        refine r_gr g4_57 rfl rfl (hp _ _ _ rfl) ?_
        refine il3 c4_60 ?_
        obtain ⟨gd7, h⟩ := pm_gd_sp h
        have wgd7 := pm_row24 _ (pm_in_clamp gd7)
        have xgd7 := wgd7.2
        refine w_aa c4_61 (by first | rfl | assumption) gd7 (hp _ _ _ wgd7.1) ?_
        refine al0 c4_62 ?_
        refine r_gr g4_63 rfl rfl (hp _ _ _ rfl) ?_
        refine il2 c4_66 ?_
        refine r_bi c4_67 kB16 ?_
        refine r_isub c4_69 ?_
        refine il3 c4_70 ?_
        refine r_iadd c4_71 ?_
        obtain ⟨gd8, h⟩ := pm_gd_sp h
        have wgd8 := pm_row41 _ (pm_in_clamp gd8)
        have xgd8 := wgd8.2
        refine w_aa c4_72 (by first | rfl | assumption) gd8 (hp _ _ _ wgd8.1) ?_
        refine cz2 q4_73 (s164 (by first | rfl | assumption) (by first | rfl | assumption) (by first | decide | assumption) (by first | decide | assumption)) rfl ?_
        rw [pm_lt_eq] at h
        generalize pm_cpw I (25 + (y3).toNatClampNeg) (42 + ((y2 - 16) + y3).toNatClampNeg) (min 66 66) = I9 at h ⊢
        refine ii3 c4_76 kI1 rfl ?_
        refine r_go (t := 39) c4_79 rfl ?_
        exact ih h
theorem d4 {X : (Nat → Int32) × Nat} {d : Nat} {I : Nat → Nat → Int32} {J : Nat → Nat → Int64} {P : Nat → Nat → Value} {e r k r2 k2 : Nat}  {q : Unit × (Nat → Nat → Int32) × (Nat → Nat → Int64)} (hw : pm_W P r k r2 k2)  (h : f4  I J = some q) : pm_Fn X (d + 3) 4 1 [.ref 23, .ref 4] (I, J, P, pm_T0, e) (.inl none) (q.2.1, q.2.2, P, pm_T0, e) := by
  obtain ⟨hp, hw1, hw2, hw3, hw4, hw5, hw6, hw7, hw8, hw9, hw10, hw11⟩ := id hw
  have hwa := hw5.1
  have hwb := hw6.1
  have hwc := hw7.1
  have hwd := hw8.1
  unfold f4 at h
  refine fn_v rc4 (c := 0) (nf := 5) (by first | rfl | assumption) ml4 rfl rfl rfl rfl ?_
  refine al0 c4_0 ?_
  refine r_gi g4_1 (by first | rfl | assumption) rfl ?_
  refine r_bi c4_4 kB17 ?_
  refine r_imul c4_6 ?_
  refine r_bi c4_7 kB16 ?_
  refine r_iadd c4_9 ?_
  refine is2 c4_10 rfl ?_
  refine il2 c4_11 ?_
  refine r_bi c4_12 kB16 ?_
  refine r_iclt (t := 26) c4_14 rfl (fun h1 => ?_) (fun h1 => ?_)
  · rw [if_pos h1] at h
    cases h
    exact r_rv c4_26 rt4 rfl
  · rw [if_neg (Int.not_lt.mpr h1)] at h
    refine il2 c4_17 ?_
    refine al0 c4_18 ?_
    refine r_gr g4_19 rfl rfl (hp _ _ _ rfl) ?_
    refine r_len c4_22 (by first | rfl | assumption) rfl ?_
    refine r_iclt (t := 27) c4_23 rfl (fun h2 => ?_) (fun h2 => ?_)
    · rw [if_pos h2] at h
      refine al1 c4_27 ?_
      refine al0 c4_28 ?_
      refine r_gr g4_29 rfl rfl (hp _ _ _ rfl) ?_
      refine il2 c4_32 ?_
      obtain ⟨gd3, h⟩ := pm_gd_sp h
      have wgd3 := pm_row41 _ (pm_in_clamp gd3)
      have xgd3 := wgd3.2
      refine w_aa c4_33 (by first | rfl | assumption) gd3 (hp _ _ _ wgd3.1) ?_
      obtain ⟨⟨ov4, I5, J6⟩, e7, h⟩ := pm_bd_sp h
      dsimp only at h
      refine cz2 q4_34 (μ1 := (I5, J6, P, pm_T0, e)) (d109 hw (by first | rfl | assumption | decide) e7) rfl ?_
      refine r_ic c4_37 kI0 ?_
      refine is3 c4_38 rfl ?_
      exact d4_39 hw pm_FU h
    · rw [if_neg (Int.not_lt.mpr h2)] at h
      cases h
      exact r_rv c4_26 rt4 rfl
def f5_66  : Nat → Int32 → Int32 → (Nat → Nat → Int32) → (Nat → Nat → Int64) → Option (Unit × (Nat → Nat → Int32) × (Nat → Nat → Int64))
  | 0, _, _, _, _ => none
  | fu + 1, y2, y3, I, J => (if y3.toInt < (I 23 3).toInt then (if y3.toInt < (nI 16).toInt then pm_gd (pm_in ((y2 - 16) + y3) 51) (pm_gd (pm_in y3 16) (pm_lt (pm_cpw I (42 + ((y2 - 16) + y3).toNatClampNeg) (25 + (y3).toNatClampNeg) (min 66 66)) (fun I5 => f5_66 fu y2 (y3 + 1) I5 J))) else some ((), I, J)) else some ((), I, J))
def f5  (I : Nat → Nat → Int32) (J : Nat → Nat → Int64) : Option (Unit × (Nat → Nat → Int32) × (Nat → Nat → Int64)) := (if ((((I 23 4) - 1) * 17) + 16).toInt < (16 : Int32).toInt then some ((), I, J) else (if ((((I 23 4) - 1) * 17) + 16).toInt < (nI 51).toInt then pm_lt (pm_w I 23 4 ((I 23 4) - 1)) (fun I3 => pm_gd (pm_in ((((I 23 4) - 1) * 17) + 16) 51) ((f105 (42 + ((((I 23 4) - 1) * 17) + 16).toNatClampNeg) I3 J).bind (fun (ov5, I6, J7) => pm_lt (pm_w I6 23 3 (pm_at (I6 93) 3 (I6 23 4))) (fun I9 => f5_66 pm_FU ((((I 23 4) - 1) * 17) + 16) 0 I9 J7)))) else some ((), I, J)))
theorem d5_66 {X : (Nat → Int32) × Nat} {d : Nat} {P : Nat → Nat → Value} {e r k r2 k2 : Nat}  (hw : pm_W P r k r2 k2)  : ∀ (fu : Nat) {y2 y3 : Int32} {I : Nat → Nat → Int32} {J : Nat → Nat → Int64} {q : Unit × (Nat → Nat → Int32) × (Nat → Nat → Int64)} {z1 : Value} (h : f5_66 fu y2 y3 I J = some q), pm_Fx X (d + 3) 5 66 [.ref 23, z1, .int y2, .int y3] [] (I, J, P, pm_T0, e) (.inl none) (q.2.1, q.2.2, P, pm_T0, e) := by
  obtain ⟨hp, hw1, hw2, hw3, hw4, hw5, hw6, hw7, hw8, hw9, hw10, hw11⟩ := id hw
  have hwa := hw5.1
  have hwb := hw6.1
  have hwc := hw7.1
  have hwd := hw8.1
  intro fu
  induction fu with
  | zero => intro y2 y3 I J q z1 h; cases h
  | succ fu ih =>
    intro y2 y3 I J q z1 h
    rw [f5_66] at h
    refine il3 c5_66 ?_
    refine al0 c5_67 ?_
    refine r_gi g5_68 (by first | rfl | assumption) rfl ?_
    refine r_icge (t := 109) c5_71 rfl (fun h1 => ?_) (fun h1 => ?_)
    · rw [if_neg (Int.not_lt.mpr h1)] at h
      cases h
      exact r_rv c5_109 rt5 rfl
    · rw [if_pos h1] at h
      refine il3 c5_74 ?_
      refine al0 c5_75 ?_
      refine r_gr g5_76 rfl rfl (hp _ _ _ rfl) ?_
      refine r_len c5_79 (by first | rfl | assumption) rfl ?_
      refine r_icge (t := 109) c5_80 rfl (fun h2 => ?_) (fun h2 => ?_)
      · rw [if_neg (Int.not_lt.mpr h2)] at h
        cases h
        exact r_rv c5_109 rt5 rfl
      · rw [if_pos h2] at h
        refine al0 c5_83 ?_
        refine r_gr g5_84 rfl rfl (hp _ _ _ rfl) ?_
        refine il2 c5_87 ?_
        refine r_bi c5_88 kB16 ?_
        refine r_isub c5_90 ?_
        refine il3 c5_91 ?_
        refine r_iadd c5_92 ?_
        obtain ⟨gd3, h⟩ := pm_gd_sp h
        have wgd3 := pm_row41 _ (pm_in_clamp gd3)
        have xgd3 := wgd3.2
        refine w_aa c5_93 (by first | rfl | assumption) gd3 (hp _ _ _ wgd3.1) ?_
        refine al0 c5_94 ?_
        refine r_gr g5_95 rfl rfl (hp _ _ _ rfl) ?_
        refine il3 c5_98 ?_
        obtain ⟨gd4, h⟩ := pm_gd_sp h
        have wgd4 := pm_row24 _ (pm_in_clamp gd4)
        have xgd4 := wgd4.2
        refine w_aa c5_99 (by first | rfl | assumption) gd4 (hp _ _ _ wgd4.1) ?_
        refine cz2 q5_100 (s164 (by first | rfl | assumption) (by first | rfl | assumption) (by first | decide | assumption) (by first | decide | assumption)) rfl ?_
        rw [pm_lt_eq] at h
        generalize pm_cpw I (42 + ((y2 - 16) + y3).toNatClampNeg) (25 + (y3).toNatClampNeg) (min 66 66) = I5 at h ⊢
        refine ii3 c5_103 kI1 rfl ?_
        refine r_go (t := 66) c5_106 rfl ?_
        exact ih h
theorem d5 {X : (Nat → Int32) × Nat} {d : Nat} {I : Nat → Nat → Int32} {J : Nat → Nat → Int64} {P : Nat → Nat → Value} {e r k r2 k2 : Nat}  {q : Unit × (Nat → Nat → Int32) × (Nat → Nat → Int64)} (hw : pm_W P r k r2 k2)  (h : f5  I J = some q) : pm_Fn X (d + 3) 5 1 [.ref 23, .ref 4] (I, J, P, pm_T0, e) (.inl none) (q.2.1, q.2.2, P, pm_T0, e) := by
  obtain ⟨hp, hw1, hw2, hw3, hw4, hw5, hw6, hw7, hw8, hw9, hw10, hw11⟩ := id hw
  have hwa := hw5.1
  have hwb := hw6.1
  have hwc := hw7.1
  have hwd := hw8.1
  unfold f5 at h
  refine fn_v rc5 (c := 0) (nf := 5) (by first | rfl | assumption) ml5 rfl rfl rfl rfl ?_
  refine al0 c5_0 ?_
  refine r_gi g5_1 (by first | rfl | assumption) rfl ?_
  refine r_ic c5_4 kI1 ?_
  refine r_isub c5_5 ?_
  refine r_bi c5_6 kB17 ?_
  refine r_imul c5_8 ?_
  refine r_bi c5_9 kB16 ?_
  refine r_iadd c5_11 ?_
  refine is2 c5_12 rfl ?_
  refine il2 c5_13 ?_
  refine r_bi c5_14 kB16 ?_
  refine r_iclt (t := 28) c5_16 rfl (fun h1 => ?_) (fun h1 => ?_)
  · rw [if_pos h1] at h
    cases h
    exact r_rv c5_28 rt5 rfl
  · rw [if_neg (Int.not_lt.mpr h1)] at h
    refine il2 c5_19 ?_
    refine al0 c5_20 ?_
    refine r_gr g5_21 rfl rfl (hp _ _ _ rfl) ?_
    refine r_len c5_24 (by first | rfl | assumption) rfl ?_
    refine r_iclt (t := 29) c5_25 rfl (fun h2 => ?_) (fun h2 => ?_)
    · rw [if_pos h2] at h
      refine al0 c5_29 ?_
      refine r_dpr c5_30 ?_
      refine r_gi g5_31 (by first | rfl | assumption) rfl ?_
      refine r_ic c5_34 kI1 ?_
      refine r_isub c5_35 ?_
      refine w_pi p5_36 (by first | rfl | assumption) rfl ?_
      rw [pm_lt_eq] at h
      generalize pm_w I 23 4 ((I 23 4) - 1) = I3 at h ⊢
      refine al1 c5_39 ?_
      refine al0 c5_40 ?_
      refine r_gr g5_41 rfl rfl (hp _ _ _ rfl) ?_
      refine il2 c5_44 ?_
      obtain ⟨gd4, h⟩ := pm_gd_sp h
      have wgd4 := pm_row41 _ (pm_in_clamp gd4)
      have xgd4 := wgd4.2
      refine w_aa c5_45 (by first | rfl | assumption) gd4 (hp _ _ _ wgd4.1) ?_
      obtain ⟨⟨ov5, I6, J7⟩, e8, h⟩ := pm_bd_sp h
      dsimp only at h
      refine cz2 q5_46 (μ1 := (I6, J7, P, pm_T0, e)) (d105 hw (by first | rfl | assumption | decide) e8) rfl ?_
      refine al0 c5_49 ?_
      refine al0 c5_50 ?_
      refine r_gr g5_51 rfl rfl (hp _ _ _ rfl) ?_
      refine al0 c5_54 ?_
      refine r_gi g5_55 (by first | rfl | assumption) rfl ?_
      refine cv2 q5_58 (s160 (by first | rfl | assumption) (by first | decide | assumption)) rfl ?_
      refine w_pi p5_61 (by first | rfl | assumption) rfl ?_
      rw [pm_lt_eq] at h
      generalize pm_w I6 23 3 (pm_at (I6 93) 3 (I6 23 4)) = I9 at h ⊢
      refine r_ic c5_64 kI0 ?_
      refine is3 c5_65 rfl ?_
      exact d5_66 hw pm_FU h
    · rw [if_neg (Int.not_lt.mpr h2)] at h
      cases h
      exact r_rv c5_28 rt5 rfl
def f6  (I : Nat → Nat → Int32) (J : Nat → Nat → Int64) : Option (Unit × (Nat → Nat → Int32) × (Nat → Nat → Int64)) := pm_lt (pm_w I 23 3 0) (fun I1 => pm_lt (pm_w I1 23 4 0) (fun I2 => some ((), I2, J)))
theorem d6 {X : (Nat → Int32) × Nat} {d : Nat} {I : Nat → Nat → Int32} {J : Nat → Nat → Int64} {P : Nat → Nat → Value} {e r k r2 k2 : Nat}  {q : Unit × (Nat → Nat → Int32) × (Nat → Nat → Int64)} (hw : pm_W P r k r2 k2)  (h : f6  I J = some q) : pm_Fn X (d) 6 1 [.ref 23] (I, J, P, pm_T0, e) (.inl none) (q.2.1, q.2.2, P, pm_T0, e) := by
  obtain ⟨hp, hw1, hw2, hw3, hw4, hw5, hw6, hw7, hw8, hw9, hw10, hw11⟩ := id hw
  have hwa := hw5.1
  have hwb := hw6.1
  have hwc := hw7.1
  have hwd := hw8.1
  unfold f6 at h
  refine fn_v rc6 (c := 0) (nf := 5) (by first | rfl | assumption) ml6 rfl rfl rfl rfl ?_
  refine al0 c6_0 ?_
  refine r_ic c6_1 kI0 ?_
  refine w_pi p6_2 (by first | rfl | assumption) rfl ?_
  rw [pm_lt_eq] at h
  generalize pm_w I 23 3 0 = I1 at h ⊢
  refine al0 c6_5 ?_
  refine r_ic c6_6 kI0 ?_
  refine w_pi p6_7 (by first | rfl | assumption) rfl ?_
  rw [pm_lt_eq] at h
  generalize pm_w I1 23 4 0 = I2 at h ⊢
  cases h
  exact r_rv c6_10 rt6 rfl
def f7  (I : Nat → Nat → Int32) (J : Nat → Nat → Int64) : Option (Unit × (Nat → Nat → Int32) × (Nat → Nat → Int64)) := (if (I 23 3).toInt < 0 then some ((), I, J) else (if (I 23 3).toInt < (nI 16).toInt then pm_gd (pm_in (I 23 3) 16) ((f109 (25 + (I 23 3).toNatClampNeg) I J).bind (fun (ov4, I5, J6) => pm_lt (pm_w I5 23 3 ((I5 23 3) + 1)) (fun I8 => some ((), I8, J6)))) else some ((), I, J)))
theorem d7 {X : (Nat → Int32) × Nat} {d : Nat} {I : Nat → Nat → Int32} {J : Nat → Nat → Int64} {P : Nat → Nat → Value} {e r k r2 k2 : Nat}  {q : Unit × (Nat → Nat → Int32) × (Nat → Nat → Int64)} (hw : pm_W P r k r2 k2)  (h : f7  I J = some q) : pm_Fn X (d + 3) 7 1 [.ref 23, .ref 4] (I, J, P, pm_T0, e) (.inl none) (q.2.1, q.2.2, P, pm_T0, e) := by
  obtain ⟨hp, hw1, hw2, hw3, hw4, hw5, hw6, hw7, hw8, hw9, hw10, hw11⟩ := id hw
  have hwa := hw5.1
  have hwb := hw6.1
  have hwc := hw7.1
  have hwd := hw8.1
  unfold f7 at h
  refine fn_v rc7 (c := 0) (nf := 5) (by first | rfl | assumption) ml7 rfl rfl rfl rfl ?_
  refine al0 c7_0 ?_
  refine r_gi g7_1 (by first | rfl | assumption) rfl ?_
  refine r_iflt (t := 42) c7_4 rfl (fun h1 => ?_) (fun h1 => ?_)
  · rw [if_pos h1] at h
    cases h
    exact r_rv c7_42 rt7 rfl
  · rw [if_neg (Int.not_lt.mpr h1)] at h
    refine al0 c7_7 ?_
    refine r_gi g7_8 (by first | rfl | assumption) rfl ?_
    refine al0 c7_11 ?_
    refine r_gr g7_12 rfl rfl (hp _ _ _ rfl) ?_
    refine r_len c7_15 (by first | rfl | assumption) rfl ?_
    refine r_icge (t := 42) c7_16 rfl (fun h2 => ?_) (fun h2 => ?_)
    · rw [if_neg (Int.not_lt.mpr h2)] at h
      cases h
      exact r_rv c7_42 rt7 rfl
    · rw [if_pos h2] at h
      refine al1 c7_19 ?_
      refine al0 c7_20 ?_
      refine r_gr g7_21 rfl rfl (hp _ _ _ rfl) ?_
      refine al0 c7_24 ?_
      refine r_gi g7_25 (by first | rfl | assumption) rfl ?_
      obtain ⟨gd3, h⟩ := pm_gd_sp h
      have wgd3 := pm_row24 _ (pm_in_clamp gd3)
      have xgd3 := wgd3.2
      refine w_aa c7_28 (by first | rfl | assumption) gd3 (hp _ _ _ wgd3.1) ?_
      obtain ⟨⟨ov4, I5, J6⟩, e7, h⟩ := pm_bd_sp h
      dsimp only at h
      refine cz2 q7_29 (μ1 := (I5, J6, P, pm_T0, e)) (d109 hw (by first | rfl | assumption | decide) e7) rfl ?_
      refine al0 c7_32 ?_
      refine r_dpr c7_33 ?_
      refine r_gi g7_34 (by first | rfl | assumption) rfl ?_
      refine r_ic c7_37 kI1 ?_
      refine r_iadd c7_38 ?_
      refine w_pi p7_39 (by first | rfl | assumption) rfl ?_
      rw [pm_lt_eq] at h
      generalize pm_w I5 23 3 ((I5 23 3) + 1) = I8 at h ⊢
      cases h
      exact r_rv c7_42 rt7 rfl
def f9 (a0 : Nat) (I : Nat → Nat → Int32) (J : Nat → Nat → Int64) : Option (Unit × (Nat → Nat → Int32) × (Nat → Nat → Int64)) := pm_lt (pm_w I a0 2 0) (fun I1 => some ((), I1, J))
theorem d9 {X : (Nat → Int32) × Nat} {d : Nat} {I : Nat → Nat → Int32} {J : Nat → Nat → Int64} {P : Nat → Nat → Value} {e r k r2 k2 : Nat} {a0 : Nat} {q : Unit × (Nat → Nat → Int32) × (Nat → Nat → Int64)} (hw : pm_W P r k r2 k2) (hy0 : pm_bkT P a0) (h : f9 a0 I J = some q) : pm_Fn X (d) 9 1 [.ref a0] (I, J, P, pm_T0, e) (.inl none) (q.2.1, q.2.2, P, pm_T0, e) := by
  obtain ⟨hp, hw1, hw2, hw3, hw4, hw5, hw6, hw7, hw8, hw9, hw10, hw11⟩ := id hw
  have hwa := hw5.1
  have hwb := hw6.1
  have hwc := hw7.1
  have hwd := hw8.1
  obtain ⟨t0a, t0b, t0c, u0a, u0b⟩ := id hy0
  unfold f9 at h
  refine fn_v rc9 (c := 1) (nf := 3) (by first | rfl | assumption) ml9 rfl rfl rfl rfl ?_
  refine al0 c9_0 ?_
  refine r_ic c9_1 kI0 ?_
  refine w_pi p9_2 (by first | rfl | assumption) rfl ?_
  rw [pm_lt_eq] at h
  generalize pm_w I a0 2 0 = I1 at h ⊢
  cases h
  exact r_rv c9_5 rt9 rfl
def f12_2 (a0 : Nat) : Nat → Int32 → Int32 → (Nat → Nat → Int32) → (Nat → Nat → Int64) → Option (Bool × (Nat → Nat → Int32) × (Nat → Nat → Int64))
  | 0, _, _, _, _ => none
  | fu + 1, y1, y2, I, J => (if y2.toInt < (I a0 2).toInt then (if (pm_at (I (a0 + 1)) 8 y2) = y1 then some (true, I, J) else f12_2 a0 fu y1 (y2 + 1) I J) else some (false, I, J))
def f12 (a0 : Nat) (x1 : Int32) (I : Nat → Nat → Int32) (J : Nat → Nat → Int64) : Option (Bool × (Nat → Nat → Int32) × (Nat → Nat → Int64)) := f12_2 a0 pm_FU x1 0 I J
theorem d12_2 {X : (Nat → Int32) × Nat} {d : Nat} {P : Nat → Nat → Value} {e r k r2 k2 : Nat} {a0 : Nat} (hw : pm_W P r k r2 k2) (hy0 : pm_bkT P a0) : ∀ (fu : Nat) {y1 y2 : Int32} {I : Nat → Nat → Int32} {J : Nat → Nat → Int64} {q : Bool × (Nat → Nat → Int32) × (Nat → Nat → Int64)} (h : f12_2 a0 fu y1 y2 I J = some q), pm_Fx X (d + 1) 12 2 [.ref a0, .int y1, .int y2] [] (I, J, P, pm_T0, e) (.inl (some (.int (pm_bi q.1)))) (q.2.1, q.2.2, P, pm_T0, e) := by
  obtain ⟨hp, hw1, hw2, hw3, hw4, hw5, hw6, hw7, hw8, hw9, hw10, hw11⟩ := id hw
  have hwa := hw5.1
  have hwb := hw6.1
  have hwc := hw7.1
  have hwd := hw8.1
  obtain ⟨t0a, t0b, t0c, u0a, u0b⟩ := id hy0
  intro fu
  induction fu with
  | zero => intro y1 y2 I J q h; cases h
  | succ fu ih =>
    intro y1 y2 I J q h
    rw [f12_2] at h
    refine il2 c12_2 ?_
    refine al0 c12_3 ?_
    refine r_gi g12_4 (by first | rfl | assumption) rfl ?_
    refine r_icge (t := 30) c12_7 rfl (fun h1 => ?_) (fun h1 => ?_)
    · rw [if_neg (Int.not_lt.mpr h1)] at h
      refine r_ic c12_30 kI0 ?_
      cases h
      exact r_rz c12_31 rt12 (by decide) rfl rfl
    · rw [if_pos h1] at h
      refine al0 c12_10 ?_
      refine r_gr g12_11 (by first | rfl | assumption) rfl (by assumption) ?_
      refine il2 c12_14 ?_
      refine cv2 q12_15 (s160 (by first | rfl | assumption) (by first | decide | assumption)) rfl ?_
      refine il1 c12_18 ?_
      refine r_icne (t := 24) c12_19 rfl (fun h2 => ?_) (fun h2 => ?_)
      · rw [if_neg h2] at h
        refine ii2 c12_24 kI1 rfl ?_
        refine r_go (t := 2) c12_27 rfl ?_
        exact ih h
      · rw [if_pos h2] at h
        refine r_ic c12_22 kI1 ?_
        cases h
        exact r_rz c12_23 rt12 (by decide) rfl rfl
theorem d12 {X : (Nat → Int32) × Nat} {d : Nat} {I : Nat → Nat → Int32} {J : Nat → Nat → Int64} {P : Nat → Nat → Value} {e r k r2 k2 : Nat} {a0 : Nat} {x1 : Int32} {q : Bool × (Nat → Nat → Int32) × (Nat → Nat → Int64)} (hw : pm_W P r k r2 k2) (hy0 : pm_bkT P a0) (h : f12 a0 x1 I J = some q) : pm_Fn X (d + 1) 12 1 [.ref a0, .int x1] (I, J, P, pm_T0, e) (.inl (some (.int (pm_bi q.1)))) (q.2.1, q.2.2, P, pm_T0, e) := by
  obtain ⟨hp, hw1, hw2, hw3, hw4, hw5, hw6, hw7, hw8, hw9, hw10, hw11⟩ := id hw
  have hwa := hw5.1
  have hwb := hw6.1
  have hwc := hw7.1
  have hwd := hw8.1
  obtain ⟨t0a, t0b, t0c, u0a, u0b⟩ := id hy0
  unfold f12 at h
  refine fn_v rc12 (c := 1) (nf := 3) (by first | rfl | assumption) ml12 rfl rfl rfl rfl ?_
  refine r_ic c12_0 kI0 ?_
  refine is2 c12_1 rfl ?_
  exact d12_2 hw hy0 pm_FU h
def v129 (x1 : Int32) (I : Nat → Nat → Int32) : Int32 := (if x1.toInt < 0 then (-1) else (if x1.toInt < (I 1 2).toInt then (if x1.toInt < (nI 600).toInt then I 2 (x1).toNatClampNeg else (-1)) else (-1)))
theorem d129 {X : (Nat → Int32) × Nat} {d : Nat} {I : Nat → Nat → Int32} {J : Nat → Nat → Int64} {P : Nat → Nat → Value} {e r k r2 k2 : Nat} {x1 : Int32} {q : Int32} (hw : pm_W P r k r2 k2)  (h : v129 x1 I = q) : pm_Fn X (d) 129 1 [.ref 1, .int x1] (I, J, P, pm_T0, e) (.inl (some (.int q))) (I, J, P, pm_T0, e) := by
  obtain ⟨hp, hw1, hw2, hw3, hw4, hw5, hw6, hw7, hw8, hw9, hw10, hw11⟩ := id hw
  have hwa := hw5.1
  have hwb := hw6.1
  have hwc := hw7.1
  have hwd := hw8.1
  have n600 : (nI 600).toInt = 600 := by decide
  unfold v129 at h
  refine fn_v rc129 (c := 8) (nf := 9) (by first | rfl | assumption) ml129 rfl rfl rfl rfl ?_
  refine il1 c129_0 ?_
  refine r_iflt (t := 30) c129_1 rfl (fun h1 => ?_) (fun h1 => ?_)
  · rw [if_pos h1] at h
    refine r_ic c129_30 kIm1 ?_
    cases h
    exact r_ri c129_31 rt129 rfl rfl
  · rw [if_neg (Int.not_lt.mpr h1)] at h
    refine il1 c129_4 ?_
    refine al0 c129_5 ?_
    refine r_gi g129_6 (by first | rfl | assumption) rfl ?_
    refine r_icge (t := 30) c129_9 rfl (fun h2 => ?_) (fun h2 => ?_)
    · rw [if_neg (Int.not_lt.mpr h2)] at h
      refine r_ic c129_30 kIm1 ?_
      cases h
      exact r_ri c129_31 rt129 rfl rfl
    · rw [if_pos h2] at h
      refine il1 c129_12 ?_
      refine al0 c129_13 ?_
      refine r_gr g129_14 rfl rfl (hp _ _ _ rfl) ?_
      refine r_len c129_17 (by first | rfl | assumption) rfl ?_
      refine r_icge (t := 30) c129_18 rfl (fun h3 => ?_) (fun h3 => ?_)
      · rw [if_neg (Int.not_lt.mpr h3)] at h
        refine r_ic c129_30 kIm1 ?_
        cases h
        exact r_ri c129_31 rt129 rfl rfl
      · rw [if_pos h3] at h
        refine al0 c129_21 ?_
        refine r_gr g129_22 rfl rfl (hp _ _ _ rfl) ?_
        refine il1 c129_25 ?_
        refine w_ia c129_26 (by first | rfl | assumption) (pm_inof (by omega) (by omega)) ?_
        refine r_go (t := 31) c129_27 rfl ?_
        cases h
        exact r_ri c129_31 rt129 rfl rfl
def v130 (x1 : Int32) (I : Nat → Nat → Int32) : Int32 := (if x1.toInt < 0 then 1 else (if x1.toInt < (I 1 2).toInt then (if x1.toInt < (nI 600).toInt then (if (I 2 (x1).toNatClampNeg).toInt < (48 : Int32).toInt then (if (I 2 (x1).toNatClampNeg).toInt < (97 : Int32).toInt then 4 else (if (122 : Int32).toInt < (I 2 (x1).toNatClampNeg).toInt then 4 else 3)) else (if (57 : Int32).toInt < (I 2 (x1).toNatClampNeg).toInt then (if (I 2 (x1).toNatClampNeg).toInt < (97 : Int32).toInt then 4 else (if (122 : Int32).toInt < (I 2 (x1).toNatClampNeg).toInt then 4 else 3)) else 2)) else 1) else 1))
theorem d130 {X : (Nat → Int32) × Nat} {d : Nat} {I : Nat → Nat → Int32} {J : Nat → Nat → Int64} {P : Nat → Nat → Value} {e r k r2 k2 : Nat} {x1 : Int32} {q : Int32} (hw : pm_W P r k r2 k2)  (h : v130 x1 I = q) : pm_Fn X (d) 130 1 [.ref 1, .int x1] (I, J, P, pm_T0, e) (.inl (some (.int q))) (I, J, P, pm_T0, e) := by
  obtain ⟨hp, hw1, hw2, hw3, hw4, hw5, hw6, hw7, hw8, hw9, hw10, hw11⟩ := id hw
  have hwa := hw5.1
  have hwb := hw6.1
  have hwc := hw7.1
  have hwd := hw8.1
  have n600 : (nI 600).toInt = 600 := by decide
  unfold v130 at h
  refine fn_v rc130 (c := 8) (nf := 9) (by first | rfl | assumption) ml130 rfl rfl rfl rfl ?_
  refine il1 c130_0 ?_
  refine r_iflt (t := 21) c130_1 rfl (fun h1 => ?_) (fun h1 => ?_)
  · rw [if_pos h1] at h
    refine r_ic c130_21 kI1 ?_
    cases h
    exact r_ri c130_22 rt130 rfl rfl
  · rw [if_neg (Int.not_lt.mpr h1)] at h
    refine il1 c130_4 ?_
    refine al0 c130_5 ?_
    refine r_gi g130_6 (by first | rfl | assumption) rfl ?_
    refine r_icge (t := 21) c130_9 rfl (fun h2 => ?_) (fun h2 => ?_)
    · rw [if_neg (Int.not_lt.mpr h2)] at h
      refine r_ic c130_21 kI1 ?_
      cases h
      exact r_ri c130_22 rt130 rfl rfl
    · rw [if_pos h2] at h
      refine il1 c130_12 ?_
      refine al0 c130_13 ?_
      refine r_gr g130_14 rfl rfl (hp _ _ _ rfl) ?_
      refine r_len c130_17 (by first | rfl | assumption) rfl ?_
      refine r_iclt (t := 23) c130_18 rfl (fun h3 => ?_) (fun h3 => ?_)
      · rw [if_pos h3] at h
        refine al0 c130_23 ?_
        refine r_gr g130_24 rfl rfl (hp _ _ _ rfl) ?_
        refine il1 c130_27 ?_
        refine w_ia c130_28 (by first | rfl | assumption) (pm_inof (by omega) (by omega)) ?_
        refine is2 c130_29 rfl ?_
        refine il2 c130_30 ?_
        refine r_bi c130_31 kB48 ?_
        refine r_iclt (t := 44) c130_33 rfl (fun h5 => ?_) (fun h5 => ?_)
        · rw [if_pos h5] at h
          refine il2 c130_44 ?_
          refine r_bi c130_45 kB97 ?_
          refine r_iclt (t := 60) c130_47 rfl (fun h6 => ?_) (fun h6 => ?_)
          · rw [if_pos h6] at h
            refine r_ic c130_60 kI4 ?_
            cases h
            exact r_ri c130_61 rt130 rfl rfl
          · rw [if_neg (Int.not_lt.mpr h6)] at h
            refine il2 c130_50 ?_
            refine r_bi c130_51 kB122 ?_
            refine r_icgt (t := 60) c130_53 rfl (fun h7 => ?_) (fun h7 => ?_)
            · rw [if_pos h7] at h
              refine r_ic c130_60 kI4 ?_
              cases h
              exact r_ri c130_61 rt130 rfl rfl
            · rw [if_neg (Int.not_lt.mpr h7)] at h
              refine r_ic c130_56 kI3 ?_
              refine r_go (t := 61) c130_57 rfl ?_
              cases h
              exact r_ri c130_61 rt130 rfl rfl
        · rw [if_neg (Int.not_lt.mpr h5)] at h
          refine il2 c130_36 ?_
          refine r_bi c130_37 kB57 ?_
          refine r_icgt (t := 44) c130_39 rfl (fun h8 => ?_) (fun h8 => ?_)
          · rw [if_pos h8] at h
            refine il2 c130_44 ?_
            refine r_bi c130_45 kB97 ?_
            refine r_iclt (t := 60) c130_47 rfl (fun h9 => ?_) (fun h9 => ?_)
            · rw [if_pos h9] at h
              refine r_ic c130_60 kI4 ?_
              cases h
              exact r_ri c130_61 rt130 rfl rfl
            · rw [if_neg (Int.not_lt.mpr h9)] at h
              refine il2 c130_50 ?_
              refine r_bi c130_51 kB122 ?_
              refine r_icgt (t := 60) c130_53 rfl (fun h10 => ?_) (fun h10 => ?_)
              · rw [if_pos h10] at h
                refine r_ic c130_60 kI4 ?_
                cases h
                exact r_ri c130_61 rt130 rfl rfl
              · rw [if_neg (Int.not_lt.mpr h10)] at h
                refine r_ic c130_56 kI3 ?_
                refine r_go (t := 61) c130_57 rfl ?_
                cases h
                exact r_ri c130_61 rt130 rfl rfl
          · rw [if_neg (Int.not_lt.mpr h8)] at h
            refine r_ic c130_42 kI2 ?_
            cases h
            exact r_ri c130_43 rt130 rfl rfl
      · rw [if_neg (Int.not_lt.mpr h3)] at h
        refine r_ic c130_21 kI1 ?_
        cases h
        exact r_ri c130_22 rt130 rfl rfl
def f128_L  : Nat → Nat → Int32 → Int32 → (Nat → Nat → Int32) → (Nat → Nat → Int64) → Option (Unit × (Nat → Nat → Int32) × (Nat → Nat → Int64))
  | 0, _, _, _, _, _ => none
  | fu + 1, 0, y1, _, I, J => (if y1.toInt < (600 : Int32).toInt then (if (v129 (I 1 4) I) = 32 then pm_lt (pm_w I 1 4 ((I 1 4) + 1)) (fun I23 => f128_L fu 0 (y1 + 1) 0 I23 J) else pm_lt (pm_w I 1 3 (v130 (I 1 4) I)) (fun I13 => (if (I13 1 3) = 4 then pm_lt (pm_w I13 1 5 ((I13 1 4) + 1)) (fun I19 => pm_lt (pm_w I19 1 6 0) (fun I20 => (if (I20 1 3) = 2 then f128_L fu 1 1 0 I20 J else (if (I20 1 3) = 3 then f128_L fu 1 1 0 I20 J else f128_L fu 1 0 0 I20 J)))) else pm_lt (pm_w I13 1 5 (I13 1 4)) (fun I15 => pm_lt (pm_w I15 1 6 0) (fun I16 => (if (I16 1 3) = 2 then f128_L fu 1 1 0 I16 J else (if (I16 1 3) = 3 then f128_L fu 1 1 0 I16 J else f128_L fu 1 0 0 I16 J))))))) else pm_lt (pm_w I 1 3 (v130 (I 1 4) I)) (fun I2 => (if (I2 1 3) = 4 then pm_lt (pm_w I2 1 5 ((I2 1 4) + 1)) (fun I8 => pm_lt (pm_w I8 1 6 0) (fun I9 => (if (I9 1 3) = 2 then f128_L fu 1 1 0 I9 J else (if (I9 1 3) = 3 then f128_L fu 1 1 0 I9 J else f128_L fu 1 0 0 I9 J)))) else pm_lt (pm_w I2 1 5 (I2 1 4)) (fun I4 => pm_lt (pm_w I4 1 6 0) (fun I5 => (if (I5 1 3) = 2 then f128_L fu 1 1 0 I5 J else (if (I5 1 3) = 3 then f128_L fu 1 1 0 I5 J else f128_L fu 1 0 0 I5 J)))))))
  | fu + 1, _ + 1, y1, y2, I, J => (if y2.toInt < (600 : Int32).toInt then (if y1 = 0 then some ((), I, J) else (if (v130 (I 1 5) I) = (I 1 3) then (if (I 1 3) = 2 then pm_lt (pm_w I 1 6 (pm_min 1000000 ((((I 1 6) * 10) + (v129 (I 1 5) I)) - 48))) (fun I29 => pm_lt (pm_w I29 1 5 ((I29 1 5) + 1)) (fun I30 => f128_L fu 1 y1 (y2 + 1) I30 J)) else pm_lt (pm_w I 1 5 ((I 1 5) + 1)) (fun I28 => f128_L fu 1 y1 (y2 + 1) I28 J)) else some ((), I, J))) else some ((), I, J))
def f128  (I : Nat → Nat → Int32) (J : Nat → Nat → Int64) : Option (Unit × (Nat → Nat → Int32) × (Nat → Nat → Int64)) := pm_lt (pm_w I 1 4 (I 1 5)) (fun I1 => f128_L pm_FU 0 0 0 I1 J)
theorem d128_L {X : (Nat → Int32) × Nat} {d : Nat} {P : Nat → Nat → Value} {e r k r2 k2 : Nat}  (hw : pm_W P r k r2 k2)  : ∀ fu : Nat, (∀ {y1 : Int32} {I : Nat → Nat → Int32} {J : Nat → Nat → Int64} {q : Unit × (Nat → Nat → Int32) × (Nat → Nat → Int64)} {z2 : Value} (h : f128_L fu 0 y1 0 I J = some q), pm_Fx X (d + 1) 128 10 [.ref 1, .int y1, z2] [] (I, J, P, pm_T0, e) (.inl none) (q.2.1, q.2.2, P, pm_T0, e)) ∧ (∀ {y1 y2 : Int32} {I : Nat → Nat → Int32} {J : Nat → Nat → Int64} {q : Unit × (Nat → Nat → Int32) × (Nat → Nat → Int64)} (h : f128_L fu 1 y1 y2 I J = some q), pm_Fx X (d + 1) 128 112 [.ref 1, .int y1, .int y2] [] (I, J, P, pm_T0, e) (.inl none) (q.2.1, q.2.2, P, pm_T0, e)) := by
  obtain ⟨hp, hw1, hw2, hw3, hw4, hw5, hw6, hw7, hw8, hw9, hw10, hw11⟩ := id hw
  have hwa := hw5.1
  have hwb := hw6.1
  have hwc := hw7.1
  have hwd := hw8.1
  intro fu
  induction fu with
  | zero => exact ⟨(by intro y1 I J q z2 h; cases h), (by intro y1 y2 I J q h; cases h)⟩
  | succ fu ih =>
    refine ⟨?_, ?_⟩
    · intro y1 I J q z2 h
      rw [f128_L] at h
      refine il1 c128_10 ?_
      refine r_si c128_11 kS600 ?_
      refine r_icge (t := 46) c128_14 rfl (fun h1 => ?_) (fun h1 => ?_)
      · rw [if_neg (Int.not_lt.mpr h1)] at h
        refine al0 c128_46 ?_
        refine al0 c128_47 ?_
        refine al0 c128_48 ?_
        refine r_gi g128_49 (by first | rfl | assumption) rfl ?_
        refine cv2 q128_52 (d130 hw rfl) rfl ?_
        refine w_pi p128_55 (by first | rfl | assumption) rfl ?_
        rw [pm_lt_eq] at h
        generalize pm_w I 1 3 (v130 (I 1 4) I) = I2 at h ⊢
        refine al0 c128_58 ?_
        refine al0 c128_59 ?_
        refine r_gi g128_60 (by first | rfl | assumption) rfl ?_
        refine r_ic c128_63 kI4 ?_
        refine r_icne (t := 76) c128_64 rfl (fun h3 => ?_) (fun h3 => ?_)
        · rw [if_neg h3] at h
          refine al0 c128_76 ?_
          refine r_gi g128_77 (by first | rfl | assumption) rfl ?_
          refine w_pi p128_80 (by first | rfl | assumption) rfl ?_
          rw [pm_lt_eq] at h
          generalize pm_w I2 1 5 (I2 1 4) = I4 at h ⊢
          refine al0 c128_83 ?_
          refine r_ic c128_84 kI0 ?_
          refine w_pi p128_85 (by first | rfl | assumption) rfl ?_
          rw [pm_lt_eq] at h
          generalize pm_w I4 1 6 0 = I5 at h ⊢
          refine al0 c128_88 ?_
          refine r_gi g128_89 (by first | rfl | assumption) rfl ?_
          refine r_ic c128_92 kI2 ?_
          refine r_iceq (t := 104) c128_93 rfl (fun h6 => ?_) (fun h6 => ?_)
          · rw [if_pos h6] at h
            refine r_ic c128_104 kI1 ?_
            refine r_go (t := 109) c128_105 rfl ?_
            refine is1 c128_109 rfl ?_
            refine r_ic c128_110 kI0 ?_
            refine is2 c128_111 rfl ?_
            exact ih.2 h
          · rw [if_neg h6] at h
            refine al0 c128_96 ?_
            refine r_gi g128_97 (by first | rfl | assumption) rfl ?_
            refine r_ic c128_100 kI3 ?_
            refine r_icne (t := 108) c128_101 rfl (fun h7 => ?_) (fun h7 => ?_)
            · rw [if_neg h7] at h
              refine r_ic c128_108 kI0 ?_
              refine is1 c128_109 rfl ?_
              refine r_ic c128_110 kI0 ?_
              refine is2 c128_111 rfl ?_
              exact ih.2 h
            · rw [if_pos h7] at h
              refine r_ic c128_104 kI1 ?_
              refine r_go (t := 109) c128_105 rfl ?_
              refine is1 c128_109 rfl ?_
              refine r_ic c128_110 kI0 ?_
              refine is2 c128_111 rfl ?_
              exact ih.2 h
        · rw [if_pos h3] at h
          refine al0 c128_67 ?_
          refine r_gi g128_68 (by first | rfl | assumption) rfl ?_
          refine r_ic c128_71 kI1 ?_
          refine r_iadd c128_72 ?_
          refine r_go (t := 80) c128_73 rfl ?_
          refine w_pi p128_80 (by first | rfl | assumption) rfl ?_
          rw [pm_lt_eq] at h
          generalize pm_w I2 1 5 ((I2 1 4) + 1) = I8 at h ⊢
          refine al0 c128_83 ?_
          refine r_ic c128_84 kI0 ?_
          refine w_pi p128_85 (by first | rfl | assumption) rfl ?_
          rw [pm_lt_eq] at h
          generalize pm_w I8 1 6 0 = I9 at h ⊢
          refine al0 c128_88 ?_
          refine r_gi g128_89 (by first | rfl | assumption) rfl ?_
          refine r_ic c128_92 kI2 ?_
          refine r_iceq (t := 104) c128_93 rfl (fun h10 => ?_) (fun h10 => ?_)
          · rw [if_pos h10] at h
            refine r_ic c128_104 kI1 ?_
            refine r_go (t := 109) c128_105 rfl ?_
            refine is1 c128_109 rfl ?_
            refine r_ic c128_110 kI0 ?_
            refine is2 c128_111 rfl ?_
            exact ih.2 h
          · rw [if_neg h10] at h
            refine al0 c128_96 ?_
            refine r_gi g128_97 (by first | rfl | assumption) rfl ?_
            refine r_ic c128_100 kI3 ?_
            refine r_icne (t := 108) c128_101 rfl (fun h11 => ?_) (fun h11 => ?_)
            · rw [if_neg h11] at h
              refine r_ic c128_108 kI0 ?_
              refine is1 c128_109 rfl ?_
              refine r_ic c128_110 kI0 ?_
              refine is2 c128_111 rfl ?_
              exact ih.2 h
            · rw [if_pos h11] at h
              refine r_ic c128_104 kI1 ?_
              refine r_go (t := 109) c128_105 rfl ?_
              refine is1 c128_109 rfl ?_
              refine r_ic c128_110 kI0 ?_
              refine is2 c128_111 rfl ?_
              exact ih.2 h
      · rw [if_pos h1] at h
        refine al0 c128_17 ?_
        refine al0 c128_18 ?_
        refine r_gi g128_19 (by first | rfl | assumption) rfl ?_
        refine cv2 q128_22 (d129 hw rfl) rfl ?_
        refine r_bi c128_25 kB32 ?_
        refine r_icne (t := 46) c128_27 rfl (fun h12 => ?_) (fun h12 => ?_)
        · rw [if_neg h12] at h
          refine al0 c128_46 ?_
          refine al0 c128_47 ?_
          refine al0 c128_48 ?_
          refine r_gi g128_49 (by first | rfl | assumption) rfl ?_
          refine cv2 q128_52 (d130 hw rfl) rfl ?_
          refine w_pi p128_55 (by first | rfl | assumption) rfl ?_
          rw [pm_lt_eq] at h
          generalize pm_w I 1 3 (v130 (I 1 4) I) = I13 at h ⊢
          refine al0 c128_58 ?_
          refine al0 c128_59 ?_
          refine r_gi g128_60 (by first | rfl | assumption) rfl ?_
          refine r_ic c128_63 kI4 ?_
          refine r_icne (t := 76) c128_64 rfl (fun h14 => ?_) (fun h14 => ?_)
          · rw [if_neg h14] at h
            refine al0 c128_76 ?_
            refine r_gi g128_77 (by first | rfl | assumption) rfl ?_
            refine w_pi p128_80 (by first | rfl | assumption) rfl ?_
            rw [pm_lt_eq] at h
            generalize pm_w I13 1 5 (I13 1 4) = I15 at h ⊢
            refine al0 c128_83 ?_
            refine r_ic c128_84 kI0 ?_
            refine w_pi p128_85 (by first | rfl | assumption) rfl ?_
            rw [pm_lt_eq] at h
            generalize pm_w I15 1 6 0 = I16 at h ⊢
            refine al0 c128_88 ?_
            refine r_gi g128_89 (by first | rfl | assumption) rfl ?_
            refine r_ic c128_92 kI2 ?_
            refine r_iceq (t := 104) c128_93 rfl (fun h17 => ?_) (fun h17 => ?_)
            · rw [if_pos h17] at h
              refine r_ic c128_104 kI1 ?_
              refine r_go (t := 109) c128_105 rfl ?_
              refine is1 c128_109 rfl ?_
              refine r_ic c128_110 kI0 ?_
              refine is2 c128_111 rfl ?_
              exact ih.2 h
            · rw [if_neg h17] at h
              refine al0 c128_96 ?_
              refine r_gi g128_97 (by first | rfl | assumption) rfl ?_
              refine r_ic c128_100 kI3 ?_
              refine r_icne (t := 108) c128_101 rfl (fun h18 => ?_) (fun h18 => ?_)
              · rw [if_neg h18] at h
                refine r_ic c128_108 kI0 ?_
                refine is1 c128_109 rfl ?_
                refine r_ic c128_110 kI0 ?_
                refine is2 c128_111 rfl ?_
                exact ih.2 h
              · rw [if_pos h18] at h
                refine r_ic c128_104 kI1 ?_
                refine r_go (t := 109) c128_105 rfl ?_
                refine is1 c128_109 rfl ?_
                refine r_ic c128_110 kI0 ?_
                refine is2 c128_111 rfl ?_
                exact ih.2 h
          · rw [if_pos h14] at h
            refine al0 c128_67 ?_
            refine r_gi g128_68 (by first | rfl | assumption) rfl ?_
            refine r_ic c128_71 kI1 ?_
            refine r_iadd c128_72 ?_
            refine r_go (t := 80) c128_73 rfl ?_
            refine w_pi p128_80 (by first | rfl | assumption) rfl ?_
            rw [pm_lt_eq] at h
            generalize pm_w I13 1 5 ((I13 1 4) + 1) = I19 at h ⊢
            refine al0 c128_83 ?_
            refine r_ic c128_84 kI0 ?_
            refine w_pi p128_85 (by first | rfl | assumption) rfl ?_
            rw [pm_lt_eq] at h
            generalize pm_w I19 1 6 0 = I20 at h ⊢
            refine al0 c128_88 ?_
            refine r_gi g128_89 (by first | rfl | assumption) rfl ?_
            refine r_ic c128_92 kI2 ?_
            refine r_iceq (t := 104) c128_93 rfl (fun h21 => ?_) (fun h21 => ?_)
            · rw [if_pos h21] at h
              refine r_ic c128_104 kI1 ?_
              refine r_go (t := 109) c128_105 rfl ?_
              refine is1 c128_109 rfl ?_
              refine r_ic c128_110 kI0 ?_
              refine is2 c128_111 rfl ?_
              exact ih.2 h
            · rw [if_neg h21] at h
              refine al0 c128_96 ?_
              refine r_gi g128_97 (by first | rfl | assumption) rfl ?_
              refine r_ic c128_100 kI3 ?_
              refine r_icne (t := 108) c128_101 rfl (fun h22 => ?_) (fun h22 => ?_)
              · rw [if_neg h22] at h
                refine r_ic c128_108 kI0 ?_
                refine is1 c128_109 rfl ?_
                refine r_ic c128_110 kI0 ?_
                refine is2 c128_111 rfl ?_
                exact ih.2 h
              · rw [if_pos h22] at h
                refine r_ic c128_104 kI1 ?_
                refine r_go (t := 109) c128_105 rfl ?_
                refine is1 c128_109 rfl ?_
                refine r_ic c128_110 kI0 ?_
                refine is2 c128_111 rfl ?_
                exact ih.2 h
        · rw [if_pos h12] at h
          refine al0 c128_30 ?_
          refine r_dpr c128_31 ?_
          refine r_gi g128_32 (by first | rfl | assumption) rfl ?_
          refine r_ic c128_35 kI1 ?_
          refine r_iadd c128_36 ?_
          refine w_pi p128_37 (by first | rfl | assumption) rfl ?_
          rw [pm_lt_eq] at h
          generalize pm_w I 1 4 ((I 1 4) + 1) = I23 at h ⊢
          refine ii1 c128_40 kI1 rfl ?_
          refine r_go (t := 10) c128_43 rfl ?_
          exact ih.1 h
    · intro y1 y2 I J q h
      rw [f128_L] at h
      refine il2 c128_112 ?_
      refine r_si c128_113 kS600 ?_
      refine r_icge (t := 190) c128_116 rfl (fun h24 => ?_) (fun h24 => ?_)
      · rw [if_neg (Int.not_lt.mpr h24)] at h
        cases h
        exact r_rv c128_190 rt128 rfl
      · rw [if_pos h24] at h
        refine il1 c128_119 ?_
        refine r_ifeq (t := 190) c128_120 rfl (fun h25 => ?_) (fun h25 => ?_)
        · rw [if_pos h25] at h
          cases h
          exact r_rv c128_190 rt128 rfl
        · rw [if_neg h25] at h
          refine al0 c128_123 ?_
          refine al0 c128_124 ?_
          refine r_gi g128_125 (by first | rfl | assumption) rfl ?_
          refine cv2 q128_128 (d130 hw rfl) rfl ?_
          refine al0 c128_131 ?_
          refine r_gi g128_132 (by first | rfl | assumption) rfl ?_
          refine r_icne (t := 190) c128_135 rfl (fun h26 => ?_) (fun h26 => ?_)
          · rw [if_neg h26] at h
            cases h
            exact r_rv c128_190 rt128 rfl
          · rw [if_pos h26] at h
            refine al0 c128_138 ?_
            refine r_gi g128_139 (by first | rfl | assumption) rfl ?_
            refine r_ic c128_142 kI2 ?_
            refine r_icne (t := 174) c128_143 rfl (fun h27 => ?_) (fun h27 => ?_)
            · rw [if_neg h27] at h
              refine al0 c128_174 ?_
              refine r_dpr c128_175 ?_
              refine r_gi g128_176 (by first | rfl | assumption) rfl ?_
              refine r_ic c128_179 kI1 ?_
              refine r_iadd c128_180 ?_
              refine w_pi p128_181 (by first | rfl | assumption) rfl ?_
              rw [pm_lt_eq] at h
              generalize pm_w I 1 5 ((I 1 5) + 1) = I28 at h ⊢
              refine ii2 c128_184 kI1 rfl ?_
              refine r_go (t := 112) c128_187 rfl ?_
              exact ih.2 h
            · rw [if_pos h27] at h
              refine al0 c128_146 ?_
              refine r_ki v128_147 ?_
              refine al0 c128_149 ?_
              refine r_gi g128_150 (by first | rfl | assumption) rfl ?_
              refine r_bi c128_153 kB10 ?_
              refine r_imul c128_155 ?_
              refine al0 c128_156 ?_
              refine al0 c128_157 ?_
              refine r_gi g128_158 (by first | rfl | assumption) rfl ?_
              refine cv2 q128_161 (d129 hw rfl) rfl ?_
              refine r_iadd c128_164 ?_
              refine r_bi c128_165 kB48 ?_
              refine r_isub c128_167 ?_
              refine cv2 q128_168 s363 rfl ?_
              refine w_pi p128_171 (by first | rfl | assumption) rfl ?_
              rw [pm_lt_eq] at h
              generalize pm_w I 1 6 (pm_min 1000000 ((((I 1 6) * 10) + (v129 (I 1 5) I)) - 48)) = I29 at h ⊢
              refine al0 c128_174 ?_
              refine r_dpr c128_175 ?_
              refine r_gi g128_176 (by first | rfl | assumption) rfl ?_
              refine r_ic c128_179 kI1 ?_
              refine r_iadd c128_180 ?_
              refine w_pi p128_181 (by first | rfl | assumption) rfl ?_
              rw [pm_lt_eq] at h
              generalize pm_w I29 1 5 ((I29 1 5) + 1) = I30 at h ⊢
              refine ii2 c128_184 kI1 rfl ?_
              refine r_go (t := 112) c128_187 rfl ?_
              exact ih.2 h
theorem d128 {X : (Nat → Int32) × Nat} {d : Nat} {I : Nat → Nat → Int32} {J : Nat → Nat → Int64} {P : Nat → Nat → Value} {e r k r2 k2 : Nat}  {q : Unit × (Nat → Nat → Int32) × (Nat → Nat → Int64)} (hw : pm_W P r k r2 k2)  (h : f128  I J = some q) : pm_Fn X (d + 1) 128 1 [.ref 1] (I, J, P, pm_T0, e) (.inl none) (q.2.1, q.2.2, P, pm_T0, e) := by
  obtain ⟨hp, hw1, hw2, hw3, hw4, hw5, hw6, hw7, hw8, hw9, hw10, hw11⟩ := id hw
  have hwa := hw5.1
  have hwb := hw6.1
  have hwc := hw7.1
  have hwd := hw8.1
  unfold f128 at h
  refine fn_v rc128 (c := 8) (nf := 9) (by first | rfl | assumption) ml128 rfl rfl rfl rfl ?_
  refine al0 c128_0 ?_
  refine al0 c128_1 ?_
  refine r_gi g128_2 (by first | rfl | assumption) rfl ?_
  refine w_pi p128_5 (by first | rfl | assumption) rfl ?_
  rw [pm_lt_eq] at h
  generalize pm_w I 1 4 (I 1 5) = I1 at h ⊢
  refine r_ic c128_8 kI0 ?_
  refine is1 c128_9 rfl ?_
  exact (d128_L hw pm_FU).1 h
def f133 (x1 : Int32) (I : Nat → Nat → Int32) (J : Nat → Nat → Int64) : Option (Unit × (Nat → Nat → Int32) × (Nat → Nat → Int64)) := (if (I 1 7) = 0 then pm_lt (pm_w I 1 7 x1) (fun I3 => pm_lt (pm_w I3 1 8 (I3 1 4)) (fun I4 => pm_lt (pm_w I4 1 3 0) (fun I5 => some ((), I5, J)))) else pm_lt (pm_w I 1 3 0) (fun I2 => some ((), I2, J)))
theorem d133 {X : (Nat → Int32) × Nat} {d : Nat} {I : Nat → Nat → Int32} {J : Nat → Nat → Int64} {P : Nat → Nat → Value} {e r k r2 k2 : Nat} {x1 : Int32} {q : Unit × (Nat → Nat → Int32) × (Nat → Nat → Int64)} (hw : pm_W P r k r2 k2)  (h : f133 x1 I J = some q) : pm_Fn X (d) 133 1 [.ref 1, .int x1] (I, J, P, pm_T0, e) (.inl none) (q.2.1, q.2.2, P, pm_T0, e) := by
  obtain ⟨hp, hw1, hw2, hw3, hw4, hw5, hw6, hw7, hw8, hw9, hw10, hw11⟩ := id hw
  have hwa := hw5.1
  have hwb := hw6.1
  have hwc := hw7.1
  have hwd := hw8.1
  unfold f133 at h
  refine fn_v rc133 (c := 8) (nf := 9) (by first | rfl | assumption) ml133 rfl rfl rfl rfl ?_
  refine al0 c133_0 ?_
  refine r_gi g133_1 (by first | rfl | assumption) rfl ?_
  refine r_ifne (t := 20) c133_4 rfl (fun h1 => ?_) (fun h1 => ?_)
  · rw [if_neg h1] at h
    refine al0 c133_20 ?_
    refine r_ic c133_21 kI0 ?_
    refine w_pi p133_22 (by first | rfl | assumption) rfl ?_
    rw [pm_lt_eq] at h
    generalize pm_w I 1 3 0 = I2 at h ⊢
    cases h
    exact r_rv c133_25 rt133 rfl
  · rw [if_pos h1] at h
    refine al0 c133_7 ?_
    refine il1 c133_8 ?_
    refine w_pi p133_9 (by first | rfl | assumption) rfl ?_
    rw [pm_lt_eq] at h
    generalize pm_w I 1 7 x1 = I3 at h ⊢
    refine al0 c133_12 ?_
    refine al0 c133_13 ?_
    refine r_gi g133_14 (by first | rfl | assumption) rfl ?_
    refine w_pi p133_17 (by first | rfl | assumption) rfl ?_
    rw [pm_lt_eq] at h
    generalize pm_w I3 1 8 (I3 1 4) = I4 at h ⊢
    refine al0 c133_20 ?_
    refine r_ic c133_21 kI0 ?_
    refine w_pi p133_22 (by first | rfl | assumption) rfl ?_
    rw [pm_lt_eq] at h
    generalize pm_w I4 1 3 0 = I5 at h ⊢
    cases h
    exact r_rv c133_25 rt133 rfl
def f134 (x1 : Int32) (x2 : Int32) (I : Nat → Nat → Int32) (J : Nat → Nat → Int64) : Option (Int32 × (Nat → Nat → Int32) × (Nat → Nat → Int64)) := (if (I 1 3) = 2 then (if (I 1 6).toInt < x1.toInt then (f133 2 I J).bind (fun (ov3, I4, J5) => some (0, I4, J5)) else (if x2.toInt < (I 1 6).toInt then (f133 2 I J).bind (fun (ov12, I13, J14) => some (0, I13, J14)) else (f128  I J).bind (fun (ov8, I9, J10) => some (I 1 6, I9, J10)))) else (f133 1 I J).bind (fun (ov16, I17, J18) => some (0, I17, J18)))
theorem d134 {X : (Nat → Int32) × Nat} {d : Nat} {I : Nat → Nat → Int32} {J : Nat → Nat → Int64} {P : Nat → Nat → Value} {e r k r2 k2 : Nat} {x1 : Int32} {x2 : Int32} {q : Int32 × (Nat → Nat → Int32) × (Nat → Nat → Int64)} (hw : pm_W P r k r2 k2)  (h : f134 x1 x2 I J = some q) : pm_Fn X (d + 2) 134 1 [.ref 1, .int x1, .int x2] (I, J, P, pm_T0, e) (.inl (some (.int q.1))) (q.2.1, q.2.2, P, pm_T0, e) := by
  obtain ⟨hp, hw1, hw2, hw3, hw4, hw5, hw6, hw7, hw8, hw9, hw10, hw11⟩ := id hw
  have hwa := hw5.1
  have hwb := hw6.1
  have hwc := hw7.1
  have hwd := hw8.1
  unfold f134 at h
  refine fn_v rc134 (c := 8) (nf := 9) (by first | rfl | assumption) ml134 rfl rfl rfl rfl ?_
  refine al0 c134_0 ?_
  refine r_gi g134_1 (by first | rfl | assumption) rfl ?_
  refine r_ic c134_4 kI2 ?_
  refine r_iceq (t := 15) c134_5 rfl (fun h1 => ?_) (fun h1 => ?_)
  · rw [if_pos h1] at h
    refine al0 c134_15 ?_
    refine r_gi g134_16 (by first | rfl | assumption) rfl ?_
    refine il1 c134_19 ?_
    refine r_iclt (t := 31) c134_20 rfl (fun h2 => ?_) (fun h2 => ?_)
    · rw [if_pos h2] at h
      refine al0 c134_31 ?_
      refine r_ic c134_32 kI2 ?_
      obtain ⟨⟨ov3, I4, J5⟩, e6, h⟩ := pm_bd_sp h
      dsimp only at h
      refine cz2 q134_33 (μ1 := (I4, J5, P, pm_T0, e)) (d133 hw e6) rfl ?_
      refine r_ic c134_36 kI0 ?_
      cases h
      exact r_ri c134_37 rt134 rfl rfl
    · rw [if_neg (Int.not_lt.mpr h2)] at h
      refine al0 c134_23 ?_
      refine r_gi g134_24 (by first | rfl | assumption) rfl ?_
      refine il2 c134_27 ?_
      refine r_icle (t := 38) c134_28 rfl (fun h7 => ?_) (fun h7 => ?_)
      · rw [if_neg (Int.not_lt.mpr h7)] at h
        refine al0 c134_38 ?_
        refine r_gi g134_39 (by first | rfl | assumption) rfl ?_
        refine is3 c134_42 rfl ?_
        refine al0 c134_43 ?_
        obtain ⟨⟨ov8, I9, J10⟩, e11, h⟩ := pm_bd_sp h
        dsimp only at h
        refine cz1 q134_44 (μ1 := (I9, J10, P, pm_T0, e)) (d128 hw e11) rfl ?_
        refine il3 c134_47 ?_
        cases h
        exact r_ri c134_48 rt134 rfl rfl
      · rw [if_pos h7] at h
        refine al0 c134_31 ?_
        refine r_ic c134_32 kI2 ?_
        obtain ⟨⟨ov12, I13, J14⟩, e15, h⟩ := pm_bd_sp h
        dsimp only at h
        refine cz2 q134_33 (μ1 := (I13, J14, P, pm_T0, e)) (d133 hw e15) rfl ?_
        refine r_ic c134_36 kI0 ?_
        cases h
        exact r_ri c134_37 rt134 rfl rfl
  · rw [if_neg h1] at h
    refine al0 c134_8 ?_
    refine r_ic c134_9 kI1 ?_
    obtain ⟨⟨ov16, I17, J18⟩, e19, h⟩ := pm_bd_sp h
    dsimp only at h
    refine cz2 q134_10 (μ1 := (I17, J18, P, pm_T0, e)) (d133 hw e19) rfl ?_
    refine r_ic c134_13 kI0 ?_
    cases h
    exact r_ri c134_14 rt134 rfl rfl
def v136 (x1 : Int32) (I : Nat → Nat → Int32) : Bool := (if (I 1 3) = 4 then (if (v129 (I 1 4) I) = x1 then true else false) else false)
theorem d136 {X : (Nat → Int32) × Nat} {d : Nat} {I : Nat → Nat → Int32} {J : Nat → Nat → Int64} {P : Nat → Nat → Value} {e r k r2 k2 : Nat} {x1 : Int32} {q : Bool} (hw : pm_W P r k r2 k2)  (h : v136 x1 I = q) : pm_Fn X (d + 1) 136 1 [.ref 1, .int x1] (I, J, P, pm_T0, e) (.inl (some (.int (pm_bi q)))) (I, J, P, pm_T0, e) := by
  obtain ⟨hp, hw1, hw2, hw3, hw4, hw5, hw6, hw7, hw8, hw9, hw10, hw11⟩ := id hw
  have hwa := hw5.1
  have hwb := hw6.1
  have hwc := hw7.1
  have hwd := hw8.1
  unfold v136 at h
  refine fn_v rc136 (c := 8) (nf := 9) (by first | rfl | assumption) ml136 rfl rfl rfl rfl ?_
  refine al0 c136_0 ?_
  refine r_gi g136_1 (by first | rfl | assumption) rfl ?_
  refine r_ic c136_4 kI4 ?_
  refine r_icne (t := 24) c136_5 rfl (fun h1 => ?_) (fun h1 => ?_)
  · rw [if_neg h1] at h
    refine r_ic c136_24 kI0 ?_
    cases h
    exact r_rz c136_25 rt136 (by decide) rfl rfl
  · rw [if_pos h1] at h
    refine al0 c136_8 ?_
    refine al0 c136_9 ?_
    refine r_gi g136_10 (by first | rfl | assumption) rfl ?_
    refine cv2 q136_13 (d129 hw rfl) rfl ?_
    refine il1 c136_16 ?_
    refine r_icne (t := 24) c136_17 rfl (fun h2 => ?_) (fun h2 => ?_)
    · rw [if_neg h2] at h
      refine r_ic c136_24 kI0 ?_
      cases h
      exact r_rz c136_25 rt136 (by decide) rfl rfl
    · rw [if_pos h2] at h
      refine r_ic c136_20 kI1 ?_
      refine r_go (t := 25) c136_21 rfl ?_
      cases h
      exact r_rz c136_25 rt136 (by decide) rfl rfl
def f135 (x1 : Int32) (I : Nat → Nat → Int32) (J : Nat → Nat → Int64) : Option (Unit × (Nat → Nat → Int32) × (Nat → Nat → Int64)) := (if (v136 x1 I) = true then (f128  I J).bind (fun (ov6, I7, J8) => some ((), I7, J8)) else (f133 1 I J).bind (fun (ov2, I3, J4) => some ((), I3, J4)))
theorem d135 {X : (Nat → Int32) × Nat} {d : Nat} {I : Nat → Nat → Int32} {J : Nat → Nat → Int64} {P : Nat → Nat → Value} {e r k r2 k2 : Nat} {x1 : Int32} {q : Unit × (Nat → Nat → Int32) × (Nat → Nat → Int64)} (hw : pm_W P r k r2 k2)  (h : f135 x1 I J = some q) : pm_Fn X (d + 2) 135 1 [.ref 1, .int x1] (I, J, P, pm_T0, e) (.inl none) (q.2.1, q.2.2, P, pm_T0, e) := by
  obtain ⟨hp, hw1, hw2, hw3, hw4, hw5, hw6, hw7, hw8, hw9, hw10, hw11⟩ := id hw
  have hwa := hw5.1
  have hwb := hw6.1
  have hwc := hw7.1
  have hwd := hw8.1
  unfold f135 at h
  refine fn_v rc135 (c := 8) (nf := 9) (by first | rfl | assumption) ml135 rfl rfl rfl rfl ?_
  refine al0 c135_0 ?_
  refine il1 c135_1 ?_
  refine cv2 q135_2 (d136 hw rfl) rfl ?_
  refine r_ifeq (t := 15) c135_5 rfl (fun h1 => ?_) (fun h1 => ?_)
  · rw [if_neg (pm_bf h1)] at h
    refine al0 c135_15 ?_
    refine r_ic c135_16 kI1 ?_
    obtain ⟨⟨ov2, I3, J4⟩, e5, h⟩ := pm_bd_sp h
    dsimp only at h
    refine cz2 q135_17 (μ1 := (I3, J4, P, pm_T0, e)) (d133 hw e5) rfl ?_
    cases h
    exact r_rv c135_20 rt135 rfl
  · rw [if_pos (pm_bt h1)] at h
    refine al0 c135_8 ?_
    obtain ⟨⟨ov6, I7, J8⟩, e9, h⟩ := pm_bd_sp h
    dsimp only at h
    refine cz1 q135_9 (μ1 := (I7, J8, P, pm_T0, e)) (d128 hw e9) rfl ?_
    refine r_go (t := 20) c135_12 rfl ?_
    cases h
    exact r_rv c135_20 rt135 rfl
def v140  (I : Nat → Nat → Int32) : Bool := (if (I 1 3) = 2 then true else false)
theorem d140 {X : (Nat → Int32) × Nat} {d : Nat} {I : Nat → Nat → Int32} {J : Nat → Nat → Int64} {P : Nat → Nat → Value} {e r k r2 k2 : Nat}  {q : Bool} (hw : pm_W P r k r2 k2)  (h : v140  I = q) : pm_Fn X (d) 140 1 [.ref 1] (I, J, P, pm_T0, e) (.inl (some (.int (pm_bi q)))) (I, J, P, pm_T0, e) := by
  obtain ⟨hp, hw1, hw2, hw3, hw4, hw5, hw6, hw7, hw8, hw9, hw10, hw11⟩ := id hw
  have hwa := hw5.1
  have hwb := hw6.1
  have hwc := hw7.1
  have hwd := hw8.1
  unfold v140 at h
  refine fn_v rc140 (c := 8) (nf := 9) (by first | rfl | assumption) ml140 rfl rfl rfl rfl ?_
  refine al0 c140_0 ?_
  refine r_gi g140_1 (by first | rfl | assumption) rfl ?_
  refine r_ic c140_4 kI2 ?_
  refine r_icne (t := 12) c140_5 rfl (fun h1 => ?_) (fun h1 => ?_)
  · rw [if_neg h1] at h
    refine r_ic c140_12 kI0 ?_
    cases h
    exact r_rz c140_13 rt140 (by decide) rfl rfl
  · rw [if_pos h1] at h
    refine r_ic c140_8 kI1 ?_
    refine r_go (t := 13) c140_9 rfl ?_
    cases h
    exact r_rz c140_13 rt140 (by decide) rfl rfl
def f11 (a0 : Nat) (I : Nat → Nat → Int32) (J : Nat → Nat → Int64) : Option (Unit × (Nat → Nat → Int32) × (Nat → Nat → Int64)) := (if (v140  I) = true then (if (499 : Int32).toInt < (I 1 6).toInt then (f133 2 I J).bind (fun (ov3, I4, J5) => some ((), I4, J5)) else (f12 a0 (I 1 6) I J).bind (fun (ov7, I8, J9) => (if ov7 = true then (f133 2 I8 J9).bind (fun (ov32, I33, J34) => some ((), I33, J34)) else (if (I8 a0 2).toInt < (8 : Int32).toInt then pm_lt (pm_pw I8 (a0 + 1) 8 (I8 a0 2) (I8 1 6)) (fun I13 => (f128  I13 J9).bind (fun (ov14, I15, J16) => (f134 0 999 I15 J16).bind (fun (ov18, I19, J20) => pm_lt (pm_pw I19 (a0 + 2) 8 (I15 a0 2) ov18) (fun I22 => pm_lt (pm_w I22 a0 2 ((I22 a0 2) + 1)) (fun I23 => (f135 59 I23 J20).bind (fun (ov24, I25, J26) => some ((), I25, J26))))))) else (f133 3 I8 J9).bind (fun (ov28, I29, J30) => some ((), I29, J30)))))) else (f133 1 I J).bind (fun (ov36, I37, J38) => some ((), I37, J38)))
theorem d11 {X : (Nat → Int32) × Nat} {d : Nat} {I : Nat → Nat → Int32} {J : Nat → Nat → Int64} {P : Nat → Nat → Value} {e r k r2 k2 : Nat} {a0 : Nat} {q : Unit × (Nat → Nat → Int32) × (Nat → Nat → Int64)} (hw : pm_W P r k r2 k2) (hy0 : pm_bkT P a0) (h : f11 a0 I J = some q) : pm_Fn X (d + 3) 11 1 [.ref a0, .ref 1] (I, J, P, pm_T0, e) (.inl none) (q.2.1, q.2.2, P, pm_T0, e) := by
  obtain ⟨hp, hw1, hw2, hw3, hw4, hw5, hw6, hw7, hw8, hw9, hw10, hw11⟩ := id hw
  have hwa := hw5.1
  have hwb := hw6.1
  have hwc := hw7.1
  have hwd := hw8.1
  obtain ⟨t0a, t0b, t0c, u0a, u0b⟩ := id hy0
  unfold f11 at h
  refine fn_v rc11 (c := 1) (nf := 3) (by first | rfl | assumption) ml11 rfl rfl rfl rfl ?_
  refine al1 c11_0 ?_
  refine cv1 q11_1 (d140 hw rfl) rfl ?_
  refine r_ifne (t := 13) c11_4 rfl (fun h1 => ?_) (fun h1 => ?_)
  · rw [if_pos (pm_bt h1)] at h
    refine al1 c11_13 ?_
    refine cv1 q11_14 (s141 (by first | rfl | assumption)) rfl ?_
    refine r_si c11_17 kS499 ?_
    refine r_icgt (t := 34) c11_20 rfl (fun h2 => ?_) (fun h2 => ?_)
    · rw [if_pos h2] at h
      refine al1 c11_34 ?_
      refine r_ic c11_35 kI2 ?_
      obtain ⟨⟨ov3, I4, J5⟩, e6, h⟩ := pm_bd_sp h
      dsimp only at h
      refine cz2 q11_36 (μ1 := (I4, J5, P, pm_T0, e)) (d133 hw e6) rfl ?_
      cases h
      exact r_rv c11_39 rt11 rfl
    · rw [if_neg (Int.not_lt.mpr h2)] at h
      refine al0 c11_23 ?_
      refine al1 c11_24 ?_
      refine cv1 q11_25 (s141 (by first | rfl | assumption)) rfl ?_
      obtain ⟨⟨ov7, I8, J9⟩, e10, h⟩ := pm_bd_sp h
      dsimp only at h
      refine cv2 q11_28 (v := .int (pm_bi ov7)) (μ1 := (I8, J9, P, pm_T0, e)) (d12 hw (by first | rfl | assumption | decide) e10) rfl ?_
      refine r_ifeq (t := 40) c11_31 rfl (fun h11 => ?_) (fun h11 => ?_)
      · rw [if_neg (pm_bf h11)] at h
        refine al0 c11_40 ?_
        refine r_gi g11_41 (by first | rfl | assumption) rfl ?_
        refine r_bi c11_44 kB8 ?_
        refine r_iclt (t := 55) c11_46 rfl (fun h12 => ?_) (fun h12 => ?_)
        · rw [if_pos h12] at h
          refine al0 c11_55 ?_
          refine r_gr g11_56 (by first | rfl | assumption) rfl (by assumption) ?_
          refine al0 c11_59 ?_
          refine r_gi g11_60 (by first | rfl | assumption) rfl ?_
          refine al1 c11_63 ?_
          refine cv1 q11_64 (s141 (by first | rfl | assumption)) rfl ?_
          refine cz3 q11_67 (t159 (by first | rfl | assumption) (by first | decide | assumption)) rfl ?_
          rw [pm_lt_eq] at h
          generalize pm_pw I8 (a0 + 1) 8 (I8 a0 2) (I8 1 6) = I13 at h ⊢
          refine al1 c11_70 ?_
          obtain ⟨⟨ov14, I15, J16⟩, e17, h⟩ := pm_bd_sp h
          dsimp only at h
          refine cz1 q11_71 (μ1 := (I15, J16, P, pm_T0, e)) (d128 hw e17) rfl ?_
          refine al0 c11_74 ?_
          refine r_gr g11_75 (by first | rfl | assumption) rfl (by assumption) ?_
          refine al0 c11_78 ?_
          refine r_gi g11_79 (by first | rfl | assumption) rfl ?_
          refine al1 c11_82 ?_
          refine r_ic c11_83 kI0 ?_
          refine r_si c11_84 kS999 ?_
          obtain ⟨⟨ov18, I19, J20⟩, e21, h⟩ := pm_bd_sp h
          dsimp only at h
          refine cv3 q11_87 (v := .int ov18) (μ1 := (I19, J20, P, pm_T0, e)) (d134 hw e21) rfl ?_
          refine cz3 q11_90 (t159 (by first | rfl | assumption) (by first | decide | assumption)) rfl ?_
          rw [pm_lt_eq] at h
          generalize pm_pw I19 (a0 + 2) 8 (I15 a0 2) ov18 = I22 at h ⊢
          refine al0 c11_93 ?_
          refine r_dpr c11_94 ?_
          refine r_gi g11_95 (by first | rfl | assumption) rfl ?_
          refine r_ic c11_98 kI1 ?_
          refine r_iadd c11_99 ?_
          refine w_pi p11_100 (by first | rfl | assumption) rfl ?_
          rw [pm_lt_eq] at h
          generalize pm_w I22 a0 2 ((I22 a0 2) + 1) = I23 at h ⊢
          refine al1 c11_103 ?_
          refine r_bi c11_104 kB59 ?_
          obtain ⟨⟨ov24, I25, J26⟩, e27, h⟩ := pm_bd_sp h
          dsimp only at h
          refine cz2 q11_106 (μ1 := (I25, J26, P, pm_T0, e)) (d135 hw e27) rfl ?_
          cases h
          exact r_rv c11_109 rt11 rfl
        · rw [if_neg (Int.not_lt.mpr h12)] at h
          refine al1 c11_49 ?_
          refine r_ic c11_50 kI3 ?_
          obtain ⟨⟨ov28, I29, J30⟩, e31, h⟩ := pm_bd_sp h
          dsimp only at h
          refine cz2 q11_51 (μ1 := (I29, J30, P, pm_T0, e)) (d133 hw e31) rfl ?_
          cases h
          exact r_rv c11_54 rt11 rfl
      · rw [if_pos (pm_bt h11)] at h
        refine al1 c11_34 ?_
        refine r_ic c11_35 kI2 ?_
        obtain ⟨⟨ov32, I33, J34⟩, e35, h⟩ := pm_bd_sp h
        dsimp only at h
        refine cz2 q11_36 (μ1 := (I33, J34, P, pm_T0, e)) (d133 hw e35) rfl ?_
        cases h
        exact r_rv c11_39 rt11 rfl
  · rw [if_neg (pm_bf h1)] at h
    refine al1 c11_7 ?_
    refine r_ic c11_8 kI1 ?_
    obtain ⟨⟨ov36, I37, J38⟩, e39, h⟩ := pm_bd_sp h
    dsimp only at h
    refine cz2 q11_9 (μ1 := (I37, J38, P, pm_T0, e)) (d133 hw e39) rfl ?_
    cases h
    exact r_rv c11_12 rt11 rfl
def v131  (I : Nat → Nat → Int32) : Bool := (if (I 1 3) = 1 then false else (if (I 1 3) = 0 then false else true))
theorem d131 {X : (Nat → Int32) × Nat} {d : Nat} {I : Nat → Nat → Int32} {J : Nat → Nat → Int64} {P : Nat → Nat → Value} {e r k r2 k2 : Nat}  {q : Bool} (hw : pm_W P r k r2 k2)  (h : v131  I = q) : pm_Fn X (d) 131 1 [.ref 1] (I, J, P, pm_T0, e) (.inl (some (.int (pm_bi q)))) (I, J, P, pm_T0, e) := by
  obtain ⟨hp, hw1, hw2, hw3, hw4, hw5, hw6, hw7, hw8, hw9, hw10, hw11⟩ := id hw
  have hwa := hw5.1
  have hwb := hw6.1
  have hwc := hw7.1
  have hwd := hw8.1
  unfold v131 at h
  refine fn_v rc131 (c := 8) (nf := 9) (by first | rfl | assumption) ml131 rfl rfl rfl rfl ?_
  refine al0 c131_0 ?_
  refine r_gi g131_1 (by first | rfl | assumption) rfl ?_
  refine r_ic c131_4 kI1 ?_
  refine r_iceq (t := 19) c131_5 rfl (fun h1 => ?_) (fun h1 => ?_)
  · rw [if_pos h1] at h
    refine r_ic c131_19 kI0 ?_
    cases h
    exact r_rz c131_20 rt131 (by decide) rfl rfl
  · rw [if_neg h1] at h
    refine al0 c131_8 ?_
    refine r_gi g131_9 (by first | rfl | assumption) rfl ?_
    refine r_ifeq (t := 19) c131_12 rfl (fun h2 => ?_) (fun h2 => ?_)
    · rw [if_pos h2] at h
      refine r_ic c131_19 kI0 ?_
      cases h
      exact r_rz c131_20 rt131 (by decide) rfl rfl
    · rw [if_neg h2] at h
      refine r_ic c131_15 kI1 ?_
      refine r_go (t := 20) c131_16 rfl ?_
      cases h
      exact r_rz c131_20 rt131 (by decide) rfl rfl
def f10_7 (a0 : Nat) : Nat → Int32 → (Nat → Nat → Int32) → (Nat → Nat → Int64) → Option (Unit × (Nat → Nat → Int32) × (Nat → Nat → Int64))
  | 0, _, _, _ => none
  | fu + 1, y2, I, J => (if (8 : Int32).toInt < y2.toInt then some ((), I, J) else (if (v131  I) = true then (f11 a0 I J).bind (fun (ov3, I4, J5) => f10_7 a0 fu (y2 + 1) I4 J5) else some ((), I, J)))
def f10 (a0 : Nat) (I : Nat → Nat → Int32) (J : Nat → Nat → Int64) : Option (Unit × (Nat → Nat → Int32) × (Nat → Nat → Int64)) := pm_lt (pm_w I a0 2 0) (fun I1 => f10_7 a0 pm_FU 0 I1 J)
theorem d10_7 {X : (Nat → Int32) × Nat} {d : Nat} {P : Nat → Nat → Value} {e r k r2 k2 : Nat} {a0 : Nat} (hw : pm_W P r k r2 k2) (hy0 : pm_bkT P a0) : ∀ (fu : Nat) {y2 : Int32} {I : Nat → Nat → Int32} {J : Nat → Nat → Int64} {q : Unit × (Nat → Nat → Int32) × (Nat → Nat → Int64)} (h : f10_7 a0 fu y2 I J = some q), pm_Fx X (d + 4) 10 7 [.ref a0, .ref 1, .int y2] [] (I, J, P, pm_T0, e) (.inl none) (q.2.1, q.2.2, P, pm_T0, e) := by
  obtain ⟨hp, hw1, hw2, hw3, hw4, hw5, hw6, hw7, hw8, hw9, hw10, hw11⟩ := id hw
  have hwa := hw5.1
  have hwb := hw6.1
  have hwc := hw7.1
  have hwd := hw8.1
  obtain ⟨t0a, t0b, t0c, u0a, u0b⟩ := id hy0
  intro fu
  induction fu with
  | zero => intro y2 I J q h; cases h
  | succ fu ih =>
    intro y2 I J q h
    rw [f10_7] at h
    refine il2 c10_7 ?_
    refine r_bi c10_8 kB8 ?_
    refine r_icgt (t := 31) c10_10 rfl (fun h1 => ?_) (fun h1 => ?_)
    · rw [if_pos h1] at h
      cases h
      exact r_rv c10_31 rt10 rfl
    · rw [if_neg (Int.not_lt.mpr h1)] at h
      refine al1 c10_13 ?_
      refine cv1 q10_14 (d131 hw rfl) rfl ?_
      refine r_ifeq (t := 31) c10_17 rfl (fun h2 => ?_) (fun h2 => ?_)
      · rw [if_neg (pm_bf h2)] at h
        cases h
        exact r_rv c10_31 rt10 rfl
      · rw [if_pos (pm_bt h2)] at h
        refine al0 c10_20 ?_
        refine al1 c10_21 ?_
        obtain ⟨⟨ov3, I4, J5⟩, e6, h⟩ := pm_bd_sp h
        dsimp only at h
        refine cz2 q10_22 (μ1 := (I4, J5, P, pm_T0, e)) (d11 hw (by first | rfl | assumption | decide) e6) rfl ?_
        refine ii2 c10_25 kI1 rfl ?_
        refine r_go (t := 7) c10_28 rfl ?_
        exact ih h
theorem d10 {X : (Nat → Int32) × Nat} {d : Nat} {I : Nat → Nat → Int32} {J : Nat → Nat → Int64} {P : Nat → Nat → Value} {e r k r2 k2 : Nat} {a0 : Nat} {q : Unit × (Nat → Nat → Int32) × (Nat → Nat → Int64)} (hw : pm_W P r k r2 k2) (hy0 : pm_bkT P a0) (h : f10 a0 I J = some q) : pm_Fn X (d + 4) 10 1 [.ref a0, .ref 1] (I, J, P, pm_T0, e) (.inl none) (q.2.1, q.2.2, P, pm_T0, e) := by
  obtain ⟨hp, hw1, hw2, hw3, hw4, hw5, hw6, hw7, hw8, hw9, hw10, hw11⟩ := id hw
  have hwa := hw5.1
  have hwb := hw6.1
  have hwc := hw7.1
  have hwd := hw8.1
  obtain ⟨t0a, t0b, t0c, u0a, u0b⟩ := id hy0
  unfold f10 at h
  refine fn_v rc10 (c := 1) (nf := 3) (by first | rfl | assumption) ml10 rfl rfl rfl rfl ?_
  refine al0 c10_0 ?_
  refine r_ic c10_1 kI0 ?_
  refine w_pi p10_2 (by first | rfl | assumption) rfl ?_
  rw [pm_lt_eq] at h
  generalize pm_w I a0 2 0 = I1 at h ⊢
  refine r_ic c10_5 kI0 ?_
  refine is2 c10_6 rfl ?_
  exact d10_7 hw hy0 pm_FU h
def f14_2 (a0 : Nat) : Nat → Int32 → Int32 → (Nat → Nat → Int32) → (Nat → Nat → Int64) → Option (Bool × (Nat → Nat → Int32) × (Nat → Nat → Int64))
  | 0, _, _, _, _ => none
  | fu + 1, y1, y2, I, J => (if y2.toInt < (I a0 2).toInt then (if (pm_max 0 (y1 - (pm_at (I (a0 + 1)) 8 y2))) = (pm_at (I (a0 + 2)) 8 y2) then f14_2 a0 fu y1 (y2 + 1) I J else some (false, I, J)) else some (true, I, J))
def f14 (a0 : Nat) (x1 : Int32) (I : Nat → Nat → Int32) (J : Nat → Nat → Int64) : Option (Bool × (Nat → Nat → Int32) × (Nat → Nat → Int64)) := f14_2 a0 pm_FU x1 0 I J
theorem d14_2 {X : (Nat → Int32) × Nat} {d : Nat} {P : Nat → Nat → Value} {e r k r2 k2 : Nat} {a0 : Nat} (hw : pm_W P r k r2 k2) (hy0 : pm_bkT P a0) : ∀ (fu : Nat) {y1 y2 : Int32} {I : Nat → Nat → Int32} {J : Nat → Nat → Int64} {q : Bool × (Nat → Nat → Int32) × (Nat → Nat → Int64)} (h : f14_2 a0 fu y1 y2 I J = some q), pm_Fx X (d + 1) 14 2 [.ref a0, .int y1, .int y2] [] (I, J, P, pm_T0, e) (.inl (some (.int (pm_bi q.1)))) (q.2.1, q.2.2, P, pm_T0, e) := by
  obtain ⟨hp, hw1, hw2, hw3, hw4, hw5, hw6, hw7, hw8, hw9, hw10, hw11⟩ := id hw
  have hwa := hw5.1
  have hwb := hw6.1
  have hwc := hw7.1
  have hwd := hw8.1
  obtain ⟨t0a, t0b, t0c, u0a, u0b⟩ := id hy0
  intro fu
  induction fu with
  | zero => intro y1 y2 I J q h; cases h
  | succ fu ih =>
    intro y1 y2 I J q h
    rw [f14_2] at h
    refine il2 c14_2 ?_
    refine al0 c14_3 ?_
    refine r_gi g14_4 (by first | rfl | assumption) rfl ?_
    refine r_icge (t := 43) c14_7 rfl (fun h1 => ?_) (fun h1 => ?_)
    · rw [if_neg (Int.not_lt.mpr h1)] at h
      refine r_ic c14_43 kI1 ?_
      cases h
      exact r_rz c14_44 rt14 (by decide) rfl rfl
    · rw [if_pos h1] at h
      refine r_ic c14_10 kI0 ?_
      refine il1 c14_11 ?_
      refine al0 c14_12 ?_
      refine r_gr g14_13 (by first | rfl | assumption) rfl (by assumption) ?_
      refine il2 c14_16 ?_
      refine cv2 q14_17 (s160 (by first | rfl | assumption) (by first | decide | assumption)) rfl ?_
      refine r_isub c14_20 ?_
      refine cv2 q14_21 s362 rfl ?_
      refine al0 c14_24 ?_
      refine r_gr g14_25 (by first | rfl | assumption) rfl (by assumption) ?_
      refine il2 c14_28 ?_
      refine cv2 q14_29 (s160 (by first | rfl | assumption) (by first | decide | assumption)) rfl ?_
      refine r_iceq (t := 37) c14_32 rfl (fun h2 => ?_) (fun h2 => ?_)
      · rw [if_pos h2] at h
        refine ii2 c14_37 kI1 rfl ?_
        refine r_go (t := 2) c14_40 rfl ?_
        exact ih h
      · rw [if_neg h2] at h
        refine r_ic c14_35 kI0 ?_
        cases h
        exact r_rz c14_36 rt14 (by decide) rfl rfl
theorem d14 {X : (Nat → Int32) × Nat} {d : Nat} {I : Nat → Nat → Int32} {J : Nat → Nat → Int64} {P : Nat → Nat → Value} {e r k r2 k2 : Nat} {a0 : Nat} {x1 : Int32} {q : Bool × (Nat → Nat → Int32) × (Nat → Nat → Int64)} (hw : pm_W P r k r2 k2) (hy0 : pm_bkT P a0) (h : f14 a0 x1 I J = some q) : pm_Fn X (d + 1) 14 1 [.ref a0, .int x1] (I, J, P, pm_T0, e) (.inl (some (.int (pm_bi q.1)))) (q.2.1, q.2.2, P, pm_T0, e) := by
  obtain ⟨hp, hw1, hw2, hw3, hw4, hw5, hw6, hw7, hw8, hw9, hw10, hw11⟩ := id hw
  have hwa := hw5.1
  have hwb := hw6.1
  have hwc := hw7.1
  have hwd := hw8.1
  obtain ⟨t0a, t0b, t0c, u0a, u0b⟩ := id hy0
  unfold f14 at h
  refine fn_v rc14 (c := 1) (nf := 3) (by first | rfl | assumption) ml14 rfl rfl rfl rfl ?_
  refine r_ic c14_0 kI0 ?_
  refine is2 c14_1 rfl ?_
  exact d14_2 hw hy0 pm_FU h
def f17 (a0 : Nat) (x1 : Int32) (I : Nat → Nat → Int32) (J : Nat → Nat → Int64) : Option (Unit × (Nat → Nat → Int32) × (Nat → Nat → Int64)) := (if (I a0 2).toInt < (nI 150).toInt then pm_lt (pm_pw I (a0 + 1) 150 (I a0 2) x1) (fun I2 => pm_lt (pm_w I2 a0 2 ((I2 a0 2) + 1)) (fun I3 => some ((), I3, J))) else some ((), I, J))
theorem d17 {X : (Nat → Int32) × Nat} {d : Nat} {I : Nat → Nat → Int32} {J : Nat → Nat → Int64} {P : Nat → Nat → Value} {e r k r2 k2 : Nat} {a0 : Nat} {x1 : Int32} {q : Unit × (Nat → Nat → Int32) × (Nat → Nat → Int64)} (hw : pm_W P r k r2 k2) (hy0 : pm_lwT P a0) (h : f17 a0 x1 I J = some q) : pm_Fn X (d + 1) 17 1 [.ref a0, .int x1] (I, J, P, pm_T0, e) (.inl none) (q.2.1, q.2.2, P, pm_T0, e) := by
  obtain ⟨hp, hw1, hw2, hw3, hw4, hw5, hw6, hw7, hw8, hw9, hw10, hw11⟩ := id hw
  have hwa := hw5.1
  have hwb := hw6.1
  have hwc := hw7.1
  have hwd := hw8.1
  obtain ⟨t0a, t0b, t0c, u0a, u0b⟩ := id hy0
  unfold f17 at h
  refine fn_v rc17 (c := 2) (nf := 3) (by first | rfl | assumption) ml17 rfl rfl rfl rfl ?_
  refine al0 c17_0 ?_
  refine r_gi g17_1 (by first | rfl | assumption) rfl ?_
  refine al0 c17_4 ?_
  refine r_gr g17_5 (by first | rfl | assumption) rfl (by assumption) ?_
  refine r_len c17_8 (by first | rfl | assumption) rfl ?_
  refine r_icge (t := 34) c17_9 rfl (fun h1 => ?_) (fun h1 => ?_)
  · rw [if_neg (Int.not_lt.mpr h1)] at h
    cases h
    exact r_rv c17_34 rt17 rfl
  · rw [if_pos h1] at h
    refine al0 c17_12 ?_
    refine r_gr g17_13 (by first | rfl | assumption) rfl (by assumption) ?_
    refine al0 c17_16 ?_
    refine r_gi g17_17 (by first | rfl | assumption) rfl ?_
    refine il1 c17_20 ?_
    refine cz3 q17_21 (t159 (by first | rfl | assumption) (by first | decide | assumption)) rfl ?_
    rw [pm_lt_eq] at h
    generalize pm_pw I (a0 + 1) 150 (I a0 2) x1 = I2 at h ⊢
    refine al0 c17_24 ?_
    refine r_dpr c17_25 ?_
    refine r_gi g17_26 (by first | rfl | assumption) rfl ?_
    refine r_ic c17_29 kI1 ?_
    refine r_iadd c17_30 ?_
    refine w_pi p17_31 (by first | rfl | assumption) rfl ?_
    rw [pm_lt_eq] at h
    generalize pm_w I2 a0 2 ((I2 a0 2) + 1) = I3 at h ⊢
    cases h
    exact r_rv c17_34 rt17 rfl
def f16 (a0 : Nat) (I : Nat → Nat → Int32) (J : Nat → Nat → Int64) : Option (Unit × (Nat → Nat → Int32) × (Nat → Nat → Int64)) := pm_lt (pm_w I a0 2 0) (fun I1 => (f17 a0 0 I1 J).bind (fun (ov2, I3, J4) => (f17 a0 66 I3 J4).bind (fun (ov6, I7, J8) => (f17 a0 10 I7 J8).bind (fun (ov10, I11, J12) => (f17 a0 1 I11 J12).bind (fun (ov14, I15, J16) => (f17 a0 18 I15 J16).bind (fun (ov18, I19, J20) => (f17 a0 10 I19 J20).bind (fun (ov22, I23, J24) => (f17 a0 8 I23 J24).bind (fun (ov26, I27, J28) => some ((), I27, J28)))))))))
theorem d16 {X : (Nat → Int32) × Nat} {d : Nat} {I : Nat → Nat → Int32} {J : Nat → Nat → Int64} {P : Nat → Nat → Value} {e r k r2 k2 : Nat} {a0 : Nat} {q : Unit × (Nat → Nat → Int32) × (Nat → Nat → Int64)} (hw : pm_W P r k r2 k2) (hy0 : pm_lwT P a0) (h : f16 a0 I J = some q) : pm_Fn X (d + 2) 16 1 [.ref a0] (I, J, P, pm_T0, e) (.inl none) (q.2.1, q.2.2, P, pm_T0, e) := by
  obtain ⟨hp, hw1, hw2, hw3, hw4, hw5, hw6, hw7, hw8, hw9, hw10, hw11⟩ := id hw
  have hwa := hw5.1
  have hwb := hw6.1
  have hwc := hw7.1
  have hwd := hw8.1
  obtain ⟨t0a, t0b, t0c, u0a, u0b⟩ := id hy0
  unfold f16 at h
  refine fn_v rc16 (c := 2) (nf := 3) (by first | rfl | assumption) ml16 rfl rfl rfl rfl ?_
  refine al0 c16_0 ?_
  refine r_ic c16_1 kI0 ?_
  refine w_pi p16_2 (by first | rfl | assumption) rfl ?_
  rw [pm_lt_eq] at h
  generalize pm_w I a0 2 0 = I1 at h ⊢
  refine al0 c16_5 ?_
  refine r_ic c16_6 kI0 ?_
  obtain ⟨⟨ov2, I3, J4⟩, e5, h⟩ := pm_bd_sp h
  dsimp only at h
  refine cz2 q16_7 (μ1 := (I3, J4, P, pm_T0, e)) (d17 hw (by first | rfl | assumption | decide) e5) rfl ?_
  refine al0 c16_10 ?_
  refine r_bi c16_11 kB66 ?_
  obtain ⟨⟨ov6, I7, J8⟩, e9, h⟩ := pm_bd_sp h
  dsimp only at h
  refine cz2 q16_13 (μ1 := (I7, J8, P, pm_T0, e)) (d17 hw (by first | rfl | assumption | decide) e9) rfl ?_
  refine al0 c16_16 ?_
  refine r_bi c16_17 kB10 ?_
  obtain ⟨⟨ov10, I11, J12⟩, e13, h⟩ := pm_bd_sp h
  dsimp only at h
  refine cz2 q16_19 (μ1 := (I11, J12, P, pm_T0, e)) (d17 hw (by first | rfl | assumption | decide) e13) rfl ?_
  refine al0 c16_22 ?_
  refine r_ic c16_23 kI1 ?_
  obtain ⟨⟨ov14, I15, J16⟩, e17, h⟩ := pm_bd_sp h
  dsimp only at h
  refine cz2 q16_24 (μ1 := (I15, J16, P, pm_T0, e)) (d17 hw (by first | rfl | assumption | decide) e17) rfl ?_
  refine al0 c16_27 ?_
  refine r_bi c16_28 kB18 ?_
  obtain ⟨⟨ov18, I19, J20⟩, e21, h⟩ := pm_bd_sp h
  dsimp only at h
  refine cz2 q16_30 (μ1 := (I19, J20, P, pm_T0, e)) (d17 hw (by first | rfl | assumption | decide) e21) rfl ?_
  refine al0 c16_33 ?_
  refine r_bi c16_34 kB10 ?_
  obtain ⟨⟨ov22, I23, J24⟩, e25, h⟩ := pm_bd_sp h
  dsimp only at h
  refine cz2 q16_36 (μ1 := (I23, J24, P, pm_T0, e)) (d17 hw (by first | rfl | assumption | decide) e25) rfl ?_
  refine al0 c16_39 ?_
  refine r_bi c16_40 kB8 ?_
  obtain ⟨⟨ov26, I27, J28⟩, e29, h⟩ := pm_bd_sp h
  dsimp only at h
  refine cz2 q16_42 (μ1 := (I27, J28, P, pm_T0, e)) (d17 hw (by first | rfl | assumption | decide) e29) rfl ?_
  cases h
  exact r_rv c16_45 rt16 rfl
def f19 (x0 : Int32) (x1 : Int32) (x2 : Int32) (I : Nat → Nat → Int32) (J : Nat → Nat → Int64) : Option (Int32 × (Nat → Nat → Int32) × (Nat → Nat → Int64)) := (if x0 = 8 then some (x1 + x2, I, J) else if x0 = 9 then some (x1 - x2, I, J) else if x0 = 10 then some (x1 * x2, I, J) else if x0 = 11 then (if x2 = 0 then some (0, I, J) else pm_gd (!decide (x2 = 0)) (some (x1 / x2, I, J))) else if x0 = 12 then some (pm_min x1 x2, I, J) else some (pm_max x1 x2, I, J))
theorem d19 {X : (Nat → Int32) × Nat} {d : Nat} {I : Nat → Nat → Int32} {J : Nat → Nat → Int64} {P : Nat → Nat → Value} {e r k r2 k2 : Nat} {x0 : Int32} {x1 : Int32} {x2 : Int32} {q : Int32 × (Nat → Nat → Int32) × (Nat → Nat → Int64)} (hw : pm_W P r k r2 k2)  (h : f19 x0 x1 x2 I J = some q) : pm_Fn X (d + 1) 19 0 [.int x0, .int x1, .int x2] (I, J, P, pm_T0, e) (.inl (some (.int q.1))) (q.2.1, q.2.2, P, pm_T0, e) := by
  obtain ⟨hp, hw1, hw2, hw3, hw4, hw5, hw6, hw7, hw8, hw9, hw10, hw11⟩ := id hw
  have hwa := hw5.1
  have hwb := hw6.1
  have hwc := hw7.1
  have hwd := hw8.1
  unfold f19 at h
  refine fn_s ml19 rfl rfl rfl ?_
  refine il0 c19_0 ?_
  by_cases h1 : x0 = 8
  · rw [if_pos h1] at h
    refine r_ts (t := 36) (o := 35) c19_1 (by rw [h1]; decide) rfl ?_
    refine il1 c19_36 ?_
    refine il2 c19_37 ?_
    refine r_iadd c19_38 ?_
    cases h
    exact r_ri c19_39 rt19 rfl rfl
  · rw [if_neg h1] at h
    by_cases h2 : x0 = 9
    · rw [if_pos h2] at h
      refine r_ts (t := 40) (o := 39) c19_1 (by rw [h2]; decide) rfl ?_
      refine il1 c19_40 ?_
      refine il2 c19_41 ?_
      refine r_isub c19_42 ?_
      cases h
      exact r_ri c19_43 rt19 rfl rfl
    · rw [if_neg h2] at h
      by_cases h3 : x0 = 10
      · rw [if_pos h3] at h
        refine r_ts (t := 44) (o := 43) c19_1 (by rw [h3]; decide) rfl ?_
        refine il1 c19_44 ?_
        refine il2 c19_45 ?_
        refine r_imul c19_46 ?_
        cases h
        exact r_ri c19_47 rt19 rfl rfl
      · rw [if_neg h3] at h
        by_cases h4 : x0 = 11
        · rw [if_pos h4] at h
          refine r_ts (t := 48) (o := 47) c19_1 (by rw [h4]; decide) rfl ?_
          refine il2 c19_48 ?_
          refine r_ifne (t := 56) c19_49 rfl (fun h5 => ?_) (fun h5 => ?_)
          · rw [if_neg h5] at h
            refine il1 c19_56 ?_
            refine il2 c19_57 ?_
            obtain ⟨gd6, h⟩ := pm_gd_sp h
            refine r_idiv c19_58 (by simpa using gd6) ?_
            cases h
            exact r_ri c19_59 rt19 rfl rfl
          · rw [if_pos h5] at h
            refine r_ic c19_52 kI0 ?_
            refine r_go (t := 59) c19_53 rfl ?_
            cases h
            exact r_ri c19_59 rt19 rfl rfl
        · rw [if_neg h4] at h
          by_cases h7 : x0 = 12
          · rw [if_pos h7] at h
            refine r_ts (t := 60) (o := 59) c19_1 (by rw [h7]; decide) rfl ?_
            refine il1 c19_60 ?_
            refine il2 c19_61 ?_
            refine cv2 q19_62 s363 rfl ?_
            cases h
            exact r_ri c19_65 rt19 rfl rfl
          · rw [if_neg h7] at h
            refine r_ts (t := 66) (o := 65) c19_1 (pm_tsd x0 [8, 9, 10, 11, 12] (by decide) (by intro v hv; simp only [List.mem_cons, List.not_mem_nil, or_false] at hv; rcases hv with rfl | rfl | rfl | rfl | rfl <;> assumption)) rfl ?_
            refine il1 c19_66 ?_
            refine il2 c19_67 ?_
            refine cv2 q19_68 s362 rfl ?_
            cases h
            exact r_ri c19_71 rt19 rfl rfl
def f18_4 (a0 : Nat) : Nat → Int32 → Int32 → (Nat → Nat → Int32) → (Nat → Nat → Int64) → Option (Int32 × (Nat → Nat → Int32) × (Nat → Nat → Int64))
  | 0, _, _, _, _ => none
  | fu + 1, y2, y3, I, J => (if y3.toInt < (I a0 2).toInt then (if y3.toInt < (nI 150).toInt then pm_gd (pm_in y3 150) ((if (I (a0 + 1) (y3).toNatClampNeg).toInt < (8 : Int32).toInt then (if y2.toInt < 0 then f18_4 a0 fu y2 (y3 + 1) I J else (if y2.toInt < (nI 32).toInt then (if (I (a0 + 1) (y3).toNatClampNeg).toInt < (14 : Int32).toInt then pm_gd (pm_in y2 32) (pm_lt (pm_w I (a0 + 2) (y2).toNatClampNeg (pm_at (I 12) 8 (I (a0 + 1) (y3).toNatClampNeg))) (fun I9 => f18_4 a0 fu (y2 + 1) (y3 + 1) I9 J)) else pm_gd (pm_in y2 32) (pm_lt (pm_w I (a0 + 2) (y2).toNatClampNeg ((I (a0 + 1) (y3).toNatClampNeg) - 14)) (fun I11 => f18_4 a0 fu (y2 + 1) (y3 + 1) I11 J))) else f18_4 a0 fu y2 (y3 + 1) I J)) else (if (I (a0 + 1) (y3).toNatClampNeg).toInt < (14 : Int32).toInt then (if y2.toInt < (2 : Int32).toInt then f18_4 a0 fu y2 (y3 + 1) I J else (if (nI 32).toInt < y2.toInt then f18_4 a0 fu y2 (y3 + 1) I J else pm_gd (pm_in (y2 - 2) 32) (pm_gd (pm_in (y2 - 1) 32) ((f19 (I (a0 + 1) (y3).toNatClampNeg) (I (a0 + 2) (y2 - 2).toNatClampNeg) (I (a0 + 2) (y2 - 1).toNatClampNeg) I J).bind (fun (ov24, I25, J26) => pm_gd (pm_in (y2 - 2) 32) (pm_lt (pm_w I25 (a0 + 2) (y2 - 2).toNatClampNeg ov24) (fun I29 => f18_4 a0 fu (y2 + (-1)) (y3 + 1) I29 J26))))))) else (if y2.toInt < 0 then f18_4 a0 fu y2 (y3 + 1) I J else (if y2.toInt < (nI 32).toInt then (if (I (a0 + 1) (y3).toNatClampNeg).toInt < (14 : Int32).toInt then pm_gd (pm_in y2 32) (pm_lt (pm_w I (a0 + 2) (y2).toNatClampNeg (pm_at (I 12) 8 (I (a0 + 1) (y3).toNatClampNeg))) (fun I17 => f18_4 a0 fu (y2 + 1) (y3 + 1) I17 J)) else pm_gd (pm_in y2 32) (pm_lt (pm_w I (a0 + 2) (y2).toNatClampNeg ((I (a0 + 1) (y3).toNatClampNeg) - 14)) (fun I19 => f18_4 a0 fu (y2 + 1) (y3 + 1) I19 J))) else f18_4 a0 fu y2 (y3 + 1) I J))))) else some (pm_max 0 (pm_min 999 (pm_at (I (a0 + 2)) 32 0)), I, J)) else some (pm_max 0 (pm_min 999 (pm_at (I (a0 + 2)) 32 0)), I, J))
def f18 (a0 : Nat) (I : Nat → Nat → Int32) (J : Nat → Nat → Int64) : Option (Int32 × (Nat → Nat → Int32) × (Nat → Nat → Int64)) := f18_4 a0 pm_FU 0 0 I J
theorem d18_4 {X : (Nat → Int32) × Nat} {d : Nat} {P : Nat → Nat → Value} {e r k r2 k2 : Nat} {a0 : Nat} (hw : pm_W P r k r2 k2) (hy0 : pm_lwT P a0) : ∀ (fu : Nat) {y2 y3 : Int32} {I : Nat → Nat → Int32} {J : Nat → Nat → Int64} {q : Int32 × (Nat → Nat → Int32) × (Nat → Nat → Int64)} {z4 : Value} (h : f18_4 a0 fu y2 y3 I J = some q), pm_Fx X (d + 2) 18 4 [.ref a0, .ref 12, .int y2, .int y3, z4] [] (I, J, P, pm_T0, e) (.inl (some (.int q.1))) (q.2.1, q.2.2, P, pm_T0, e) := by
  obtain ⟨hp, hw1, hw2, hw3, hw4, hw5, hw6, hw7, hw8, hw9, hw10, hw11⟩ := id hw
  have hwa := hw5.1
  have hwb := hw6.1
  have hwc := hw7.1
  have hwd := hw8.1
  obtain ⟨t0a, t0b, t0c, u0a, u0b⟩ := id hy0
  intro fu
  induction fu with
  | zero => intro y2 y3 I J q z4 h; cases h
  | succ fu ih =>
    intro y2 y3 I J q z4 h
    rw [f18_4] at h
    refine il3 c18_4 ?_
    refine al0 c18_5 ?_
    refine r_gi g18_6 (by first | rfl | assumption) rfl ?_
    refine r_icge (t := 141) c18_9 rfl (fun h1 => ?_) (fun h1 => ?_)
    · rw [if_neg (Int.not_lt.mpr h1)] at h
      refine r_ic c18_141 kI0 ?_
      refine r_si c18_142 kS999 ?_
      refine al0 c18_145 ?_
      refine r_gr g18_146 (by first | rfl | assumption) rfl (by assumption) ?_
      refine r_ic c18_149 kI0 ?_
      refine cv2 q18_150 (s160 (by first | rfl | assumption) (by first | decide | assumption)) rfl ?_
      refine cv2 q18_153 s363 rfl ?_
      refine cv2 q18_156 s362 rfl ?_
      cases h
      exact r_ri c18_159 rt18 rfl rfl
    · rw [if_pos h1] at h
      refine il3 c18_12 ?_
      refine al0 c18_13 ?_
      refine r_gr g18_14 (by first | rfl | assumption) rfl (by assumption) ?_
      refine r_len c18_17 (by first | rfl | assumption) rfl ?_
      refine r_icge (t := 141) c18_18 rfl (fun h2 => ?_) (fun h2 => ?_)
      · rw [if_neg (Int.not_lt.mpr h2)] at h
        refine r_ic c18_141 kI0 ?_
        refine r_si c18_142 kS999 ?_
        refine al0 c18_145 ?_
        refine r_gr g18_146 (by first | rfl | assumption) rfl (by assumption) ?_
        refine r_ic c18_149 kI0 ?_
        refine cv2 q18_150 (s160 (by first | rfl | assumption) (by first | decide | assumption)) rfl ?_
        refine cv2 q18_153 s363 rfl ?_
        refine cv2 q18_156 s362 rfl ?_
        cases h
        exact r_ri c18_159 rt18 rfl rfl
      · rw [if_pos h2] at h
        refine al0 c18_21 ?_
        refine r_gr g18_22 (by first | rfl | assumption) rfl (by assumption) ?_
        refine il3 c18_25 ?_
        obtain ⟨gd3, h⟩ := pm_gd_sp h
        refine w_ia c18_26 (by first | rfl | assumption) gd3 ?_
        refine is4 c18_27 rfl ?_
        refine il4 c18_29 ?_
        refine r_bi c18_31 kB8 ?_
        refine r_iclt (t := 92) c18_33 rfl (fun h4 => ?_) (fun h4 => ?_)
        · rw [if_pos h4] at h
          refine il2 c18_92 ?_
          refine r_iflt (t := 135) c18_93 rfl (fun h5 => ?_) (fun h5 => ?_)
          · rw [if_pos h5] at h
            refine ii3 c18_135 kI1 rfl ?_
            refine r_go (t := 4) c18_138 rfl ?_
            exact ih h
          · rw [if_neg (Int.not_lt.mpr h5)] at h
            refine il2 c18_96 ?_
            refine al0 c18_97 ?_
            refine r_gr g18_98 (by first | rfl | assumption) rfl (by assumption) ?_
            refine r_len c18_101 (by first | rfl | assumption) rfl ?_
            refine r_icge (t := 135) c18_102 rfl (fun h6 => ?_) (fun h6 => ?_)
            · rw [if_neg (Int.not_lt.mpr h6)] at h
              refine ii3 c18_135 kI1 rfl ?_
              refine r_go (t := 4) c18_138 rfl ?_
              exact ih h
            · rw [if_pos h6] at h
              refine al0 c18_105 ?_
              refine r_gr g18_106 (by first | rfl | assumption) rfl (by assumption) ?_
              refine il2 c18_109 ?_
              refine il4 c18_110 ?_
              refine r_bi c18_112 kB14 ?_
              refine r_iclt (t := 125) c18_114 rfl (fun h7 => ?_) (fun h7 => ?_)
              · rw [if_pos h7] at h
                refine al1 c18_125 ?_
                refine il4 c18_126 ?_
                refine cv2 q18_128 (s160 (by first | rfl | assumption) (by first | decide | assumption)) rfl ?_
                obtain ⟨gd8, h⟩ := pm_gd_sp h
                refine w_ist c18_131 (by first | rfl | assumption) gd8 ?_
                rw [pm_lt_eq] at h
                generalize pm_w I (a0 + 2) (y2).toNatClampNeg (pm_at (I 12) 8 (I (a0 + 1) (y3).toNatClampNeg)) = I9 at h ⊢
                refine ii2 c18_132 kI1 rfl ?_
                refine ii3 c18_135 kI1 rfl ?_
                refine r_go (t := 4) c18_138 rfl ?_
                exact ih h
              · rw [if_neg (Int.not_lt.mpr h7)] at h
                refine il4 c18_117 ?_
                refine r_bi c18_119 kB14 ?_
                refine r_isub c18_121 ?_
                refine r_go (t := 131) c18_122 rfl ?_
                obtain ⟨gd10, h⟩ := pm_gd_sp h
                refine w_ist c18_131 (by first | rfl | assumption) gd10 ?_
                rw [pm_lt_eq] at h
                generalize pm_w I (a0 + 2) (y2).toNatClampNeg ((I (a0 + 1) (y3).toNatClampNeg) - 14) = I11 at h ⊢
                refine ii2 c18_132 kI1 rfl ?_
                refine ii3 c18_135 kI1 rfl ?_
                refine r_go (t := 4) c18_138 rfl ?_
                exact ih h
        · rw [if_neg (Int.not_lt.mpr h4)] at h
          refine il4 c18_36 ?_
          refine r_bi c18_38 kB14 ?_
          refine r_icge (t := 92) c18_40 rfl (fun h12 => ?_) (fun h12 => ?_)
          · rw [if_neg (Int.not_lt.mpr h12)] at h
            refine il2 c18_92 ?_
            refine r_iflt (t := 135) c18_93 rfl (fun h13 => ?_) (fun h13 => ?_)
            · rw [if_pos h13] at h
              refine ii3 c18_135 kI1 rfl ?_
              refine r_go (t := 4) c18_138 rfl ?_
              exact ih h
            · rw [if_neg (Int.not_lt.mpr h13)] at h
              refine il2 c18_96 ?_
              refine al0 c18_97 ?_
              refine r_gr g18_98 (by first | rfl | assumption) rfl (by assumption) ?_
              refine r_len c18_101 (by first | rfl | assumption) rfl ?_
              refine r_icge (t := 135) c18_102 rfl (fun h14 => ?_) (fun h14 => ?_)
              · rw [if_neg (Int.not_lt.mpr h14)] at h
                refine ii3 c18_135 kI1 rfl ?_
                refine r_go (t := 4) c18_138 rfl ?_
                exact ih h
              · rw [if_pos h14] at h
                refine al0 c18_105 ?_
                refine r_gr g18_106 (by first | rfl | assumption) rfl (by assumption) ?_
                refine il2 c18_109 ?_
                refine il4 c18_110 ?_
                refine r_bi c18_112 kB14 ?_
                refine r_iclt (t := 125) c18_114 rfl (fun h15 => ?_) (fun h15 => ?_)
                · rw [if_pos h15] at h
                  refine al1 c18_125 ?_
                  refine il4 c18_126 ?_
                  refine cv2 q18_128 (s160 (by first | rfl | assumption) (by first | decide | assumption)) rfl ?_
                  obtain ⟨gd16, h⟩ := pm_gd_sp h
                  refine w_ist c18_131 (by first | rfl | assumption) gd16 ?_
                  rw [pm_lt_eq] at h
                  generalize pm_w I (a0 + 2) (y2).toNatClampNeg (pm_at (I 12) 8 (I (a0 + 1) (y3).toNatClampNeg)) = I17 at h ⊢
                  refine ii2 c18_132 kI1 rfl ?_
                  refine ii3 c18_135 kI1 rfl ?_
                  refine r_go (t := 4) c18_138 rfl ?_
                  exact ih h
                · rw [if_neg (Int.not_lt.mpr h15)] at h
                  refine il4 c18_117 ?_
                  refine r_bi c18_119 kB14 ?_
                  refine r_isub c18_121 ?_
                  refine r_go (t := 131) c18_122 rfl ?_
                  obtain ⟨gd18, h⟩ := pm_gd_sp h
                  refine w_ist c18_131 (by first | rfl | assumption) gd18 ?_
                  rw [pm_lt_eq] at h
                  generalize pm_w I (a0 + 2) (y2).toNatClampNeg ((I (a0 + 1) (y3).toNatClampNeg) - 14) = I19 at h ⊢
                  refine ii2 c18_132 kI1 rfl ?_
                  refine ii3 c18_135 kI1 rfl ?_
                  refine r_go (t := 4) c18_138 rfl ?_
                  exact ih h
          · rw [if_pos h12] at h
            refine il2 c18_43 ?_
            refine r_ic c18_44 kI2 ?_
            refine r_iclt (t := 135) c18_45 rfl (fun h20 => ?_) (fun h20 => ?_)
            · rw [if_pos h20] at h
              refine ii3 c18_135 kI1 rfl ?_
              refine r_go (t := 4) c18_138 rfl ?_
              exact ih h
            · rw [if_neg (Int.not_lt.mpr h20)] at h
              refine il2 c18_48 ?_
              refine al0 c18_49 ?_
              refine r_gr g18_50 (by first | rfl | assumption) rfl (by assumption) ?_
              refine r_len c18_53 (by first | rfl | assumption) rfl ?_
              refine r_icgt (t := 135) c18_54 rfl (fun h21 => ?_) (fun h21 => ?_)
              · rw [if_pos h21] at h
                refine ii3 c18_135 kI1 rfl ?_
                refine r_go (t := 4) c18_138 rfl ?_
                exact ih h
              · rw [if_neg (Int.not_lt.mpr h21)] at h
                refine al0 c18_57 ?_
                refine r_gr g18_58 (by first | rfl | assumption) rfl (by assumption) ?_
                refine il2 c18_61 ?_
                refine r_ic c18_62 kI2 ?_
                refine r_isub c18_63 ?_
                refine il4 c18_64 ?_
                refine al0 c18_66 ?_
                refine r_gr g18_67 (by first | rfl | assumption) rfl (by assumption) ?_
                refine il2 c18_70 ?_
                refine r_ic c18_71 kI2 ?_
                refine r_isub c18_72 ?_
                obtain ⟨gd22, h⟩ := pm_gd_sp h
                refine w_ia c18_73 (by first | rfl | assumption) gd22 ?_
                refine al0 c18_74 ?_
                refine r_gr g18_75 (by first | rfl | assumption) rfl (by assumption) ?_
                refine il2 c18_78 ?_
                refine r_ic c18_79 kI1 ?_
                refine r_isub c18_80 ?_
                obtain ⟨gd23, h⟩ := pm_gd_sp h
                refine w_ia c18_81 (by first | rfl | assumption) gd23 ?_
                obtain ⟨⟨ov24, I25, J26⟩, e27, h⟩ := pm_bd_sp h
                dsimp only at h
                refine cv3 q18_82 (v := .int ov24) (μ1 := (I25, J26, P, pm_T0, e)) (d19 hw e27) rfl ?_
                obtain ⟨gd28, h⟩ := pm_gd_sp h
                refine w_ist c18_85 (by first | rfl | assumption) gd28 ?_
                rw [pm_lt_eq] at h
                generalize pm_w I25 (a0 + 2) (y2 - 2).toNatClampNeg ov24 = I29 at h ⊢
                refine ii2 c18_86 kIm1 rfl ?_
                refine r_go (t := 135) c18_89 rfl ?_
                refine ii3 c18_135 kI1 rfl ?_
                refine r_go (t := 4) c18_138 rfl ?_
                exact ih h
theorem d18 {X : (Nat → Int32) × Nat} {d : Nat} {I : Nat → Nat → Int32} {J : Nat → Nat → Int64} {P : Nat → Nat → Value} {e r k r2 k2 : Nat} {a0 : Nat} {q : Int32 × (Nat → Nat → Int32) × (Nat → Nat → Int64)} (hw : pm_W P r k r2 k2) (hy0 : pm_lwT P a0) (h : f18 a0 I J = some q) : pm_Fn X (d + 2) 18 1 [.ref a0, .ref 12] (I, J, P, pm_T0, e) (.inl (some (.int q.1))) (q.2.1, q.2.2, P, pm_T0, e) := by
  obtain ⟨hp, hw1, hw2, hw3, hw4, hw5, hw6, hw7, hw8, hw9, hw10, hw11⟩ := id hw
  have hwa := hw5.1
  have hwb := hw6.1
  have hwc := hw7.1
  have hwd := hw8.1
  obtain ⟨t0a, t0b, t0c, u0a, u0b⟩ := id hy0
  unfold f18 at h
  refine fn_v rc18 (c := 2) (nf := 3) (by first | rfl | assumption) ml18 rfl rfl rfl rfl ?_
  refine r_ic c18_0 kI0 ?_
  refine is2 c18_1 rfl ?_
  refine r_ic c18_2 kI0 ?_
  refine is3 c18_3 rfl ?_
  exact d18_4 hw hy0 pm_FU h
def f132_28 (s1 : Nat) : Nat → Int32 → (Nat → Nat → Int32) → (Nat → Nat → Int64) → Option (Bool × (Nat → Nat → Int32) × (Nat → Nat → Int64))
  | 0, _, _, _ => none
  | fu + 1, y2, I, J => (if y2.toInt < (nI (pm_tl (s1 + 2))).toInt then pm_gd (pm_in y2 (pm_tl (s1 + 2))) ((if (v129 ((I 1 4) + y2) I) = (nI (pm_tc (s1 + 2) (y2).toNatClampNeg)) then f132_28 s1 fu (y2 + 1) I J else some (false, I, J))) else some (true, I, J))
def f132 (s1 : Nat) (I : Nat → Nat → Int32) (J : Nat → Nat → Int64) : Option (Bool × (Nat → Nat → Int32) × (Nat → Nat → Int64)) := (if (I 1 3) = 3 then (if ((I 1 5) - (I 1 4)) = (nI (pm_tl (s1 + 2))) then f132_28 s1 pm_FU 0 I J else some (false, I, J)) else some (false, I, J))
theorem d132_28 {X : (Nat → Int32) × Nat} {d : Nat} {P : Nat → Nat → Value} {e r k r2 k2 : Nat} {s1 : Nat} (hw : pm_W P r k r2 k2) (hy0 : pm_okS (s1 + 2) = true) : ∀ (fu : Nat) {y2 : Int32} {I : Nat → Nat → Int32} {J : Nat → Nat → Int64} {q : Bool × (Nat → Nat → Int32) × (Nat → Nat → Int64)} (h : f132_28 s1 fu y2 I J = some q), pm_Fx X (d + 5) 132 28 [.ref 1, .retAddr (s1 + 2), .int y2] [] (I, J, P, pm_T0, e) (.inl (some (.int (pm_bi q.1)))) (q.2.1, q.2.2, P, pm_T0, e) := by
  obtain ⟨hp, hw1, hw2, hw3, hw4, hw5, hw6, hw7, hw8, hw9, hw10, hw11⟩ := id hw
  have hwa := hw5.1
  have hwb := hw6.1
  have hwc := hw7.1
  have hwd := hw8.1
  intro fu
  induction fu with
  | zero => intro y2 I J q h; cases h
  | succ fu ih =>
    intro y2 I J q h
    rw [f132_28] at h
    refine il2 c132_28 ?_
    refine at1 c132_29 ?_
    refine cv1 q132_30 (s366 (by first | rfl | assumption)) rfl ?_
    refine r_icge (t := 62) c132_33 rfl (fun h1 => ?_) (fun h1 => ?_)
    · rw [if_neg (Int.not_lt.mpr h1)] at h
      refine r_ic c132_62 kI1 ?_
      cases h
      exact r_rz c132_63 rt132 (by decide) rfl rfl
    · rw [if_pos h1] at h
      refine al0 c132_36 ?_
      refine al0 c132_37 ?_
      refine r_gi g132_38 (by first | rfl | assumption) rfl ?_
      refine il2 c132_41 ?_
      refine r_iadd c132_42 ?_
      refine cv2 q132_43 (d129 hw rfl) rfl ?_
      refine at1 c132_46 ?_
      refine il2 c132_47 ?_
      obtain ⟨gd2, h⟩ := pm_gd_sp h
      refine cv2 q132_48 (s368 (by first | rfl | assumption) gd2) rfl ?_
      refine r_iceq (t := 56) c132_51 rfl (fun h3 => ?_) (fun h3 => ?_)
      · rw [if_pos h3] at h
        refine ii2 c132_56 kI1 rfl ?_
        refine r_go (t := 28) c132_59 rfl ?_
        exact ih h
      · rw [if_neg h3] at h
        refine r_ic c132_54 kI0 ?_
        cases h
        exact r_rz c132_55 rt132 (by decide) rfl rfl
theorem d132 {X : (Nat → Int32) × Nat} {d : Nat} {I : Nat → Nat → Int32} {J : Nat → Nat → Int64} {P : Nat → Nat → Value} {e r k r2 k2 : Nat} {s1 : Nat} {q : Bool × (Nat → Nat → Int32) × (Nat → Nat → Int64)} (hw : pm_W P r k r2 k2) (hy0 : pm_okS (s1 + 2) = true) (h : f132 s1 I J = some q) : pm_Fn X (d + 5) 132 1 [.ref 1, .retAddr (s1 + 2)] (I, J, P, pm_T0, e) (.inl (some (.int (pm_bi q.1)))) (q.2.1, q.2.2, P, pm_T0, e) := by
  obtain ⟨hp, hw1, hw2, hw3, hw4, hw5, hw6, hw7, hw8, hw9, hw10, hw11⟩ := id hw
  have hwa := hw5.1
  have hwb := hw6.1
  have hwc := hw7.1
  have hwd := hw8.1
  unfold f132 at h
  refine fn_v rc132 (c := 8) (nf := 9) (by first | rfl | assumption) ml132 rfl rfl rfl rfl ?_
  refine al0 c132_0 ?_
  refine r_gi g132_1 (by first | rfl | assumption) rfl ?_
  refine r_ic c132_4 kI3 ?_
  refine r_icne (t := 24) c132_5 rfl (fun h1 => ?_) (fun h1 => ?_)
  · rw [if_neg h1] at h
    refine r_ic c132_24 kI0 ?_
    cases h
    exact r_rz c132_25 rt132 (by decide) rfl rfl
  · rw [if_pos h1] at h
    refine al0 c132_8 ?_
    refine r_gi g132_9 (by first | rfl | assumption) rfl ?_
    refine al0 c132_12 ?_
    refine r_gi g132_13 (by first | rfl | assumption) rfl ?_
    refine r_isub c132_16 ?_
    refine at1 c132_17 ?_
    refine cv1 q132_18 (s366 (by first | rfl | assumption)) rfl ?_
    refine r_iceq (t := 26) c132_21 rfl (fun h2 => ?_) (fun h2 => ?_)
    · rw [if_pos h2] at h
      refine r_ic c132_26 kI0 ?_
      refine is2 c132_27 rfl ?_
      exact d132_28 hw hy0 pm_FU h
    · rw [if_neg h2] at h
      refine r_ic c132_24 kI0 ?_
      cases h
      exact r_rz c132_25 rt132 (by decide) rfl rfl
def f24  (I : Nat → Nat → Int32) (J : Nat → Nat → Int64) : Option (Int32 × (Nat → Nat → Int32) × (Nat → Nat → Int64)) := (f132 12 I J).bind (fun (ov1, I2, J3) => (if ov1 = true then some (12, I2, J3) else (f132 14 I2 J3).bind (fun (ov6, I7, J8) => (if ov6 = true then some (13, I7, J8) else some ((-1), I7, J8)))))
theorem d24 {X : (Nat → Int32) × Nat} {d : Nat} {I : Nat → Nat → Int32} {J : Nat → Nat → Int64} {P : Nat → Nat → Value} {e r k r2 k2 : Nat}  {q : Int32 × (Nat → Nat → Int32) × (Nat → Nat → Int64)} (hw : pm_W P r k r2 k2)  (h : f24  I J = some q) : pm_Fn X (d + 6) 24 0 [.ref 1] (I, J, P, pm_T0, e) (.inl (some (.int q.1))) (q.2.1, q.2.2, P, pm_T0, e) := by
  obtain ⟨hp, hw1, hw2, hw3, hw4, hw5, hw6, hw7, hw8, hw9, hw10, hw11⟩ := id hw
  have hwa := hw5.1
  have hwb := hw6.1
  have hwc := hw7.1
  have hwd := hw8.1
  unfold f24 at h
  refine fn_s ml24 rfl rfl rfl ?_
  refine al0 c24_0 ?_
  refine r_ks v24_1 ?_
  obtain ⟨⟨ov1, I2, J3⟩, e4, h⟩ := pm_bd_sp h
  dsimp only at h
  refine cv2 q24_3 (v := .int (pm_bi ov1)) (μ1 := (I2, J3, P, pm_T0, e)) (d132 hw (by first | rfl | assumption | decide) e4) rfl ?_
  refine r_ifeq (t := 12) c24_6 rfl (fun h5 => ?_) (fun h5 => ?_)
  · rw [if_neg (pm_bf h5)] at h
    refine al0 c24_12 ?_
    refine r_ks v24_13 ?_
    obtain ⟨⟨ov6, I7, J8⟩, e9, h⟩ := pm_bd_sp h
    dsimp only at h
    refine cv2 q24_15 (v := .int (pm_bi ov6)) (μ1 := (I7, J8, P, pm_T0, e)) (d132 hw (by first | rfl | assumption | decide) e9) rfl ?_
    refine r_ifeq (t := 26) c24_18 rfl (fun h10 => ?_) (fun h10 => ?_)
    · rw [if_neg (pm_bf h10)] at h
      refine r_ic c24_26 kIm1 ?_
      cases h
      exact r_ri c24_27 rt24 rfl rfl
    · rw [if_pos (pm_bt h10)] at h
      refine r_bi c24_21 kB13 ?_
      refine r_go (t := 27) c24_23 rfl ?_
      cases h
      exact r_ri c24_27 rt24 rfl rfl
  · rw [if_pos (pm_bt h5)] at h
    refine r_bi c24_9 kB12 ?_
    cases h
    exact r_ri c24_11 rt24 rfl rfl
def f25  (I : Nat → Nat → Int32) (J : Nat → Nat → Int64) : Option (Int32 × (Nat → Nat → Int32) × (Nat → Nat → Int64)) := (f132 16 I J).bind (fun (ov1, I2, J3) => (if ov1 = true then some (0, I2, J3) else (f132 18 I2 J3).bind (fun (ov6, I7, J8) => (if ov6 = true then some (1, I7, J8) else (f132 20 I7 J8).bind (fun (ov11, I12, J13) => (if ov11 = true then some (2, I12, J13) else (f132 22 I12 J13).bind (fun (ov16, I17, J18) => (if ov16 = true then some (3, I17, J18) else (f132 24 I17 J18).bind (fun (ov21, I22, J23) => (if ov21 = true then some (4, I22, J23) else (f132 26 I22 J23).bind (fun (ov26, I27, J28) => (if ov26 = true then some (5, I27, J28) else (f132 28 I27 J28).bind (fun (ov31, I32, J33) => (if ov31 = true then some (6, I32, J33) else (f132 30 I32 J33).bind (fun (ov36, I37, J38) => (if ov36 = true then some (7, I37, J38) else some ((-1), I37, J38)))))))))))))))))
theorem d25 {X : (Nat → Int32) × Nat} {d : Nat} {I : Nat → Nat → Int32} {J : Nat → Nat → Int64} {P : Nat → Nat → Value} {e r k r2 k2 : Nat}  {q : Int32 × (Nat → Nat → Int32) × (Nat → Nat → Int64)} (hw : pm_W P r k r2 k2)  (h : f25  I J = some q) : pm_Fn X (d + 6) 25 0 [.ref 1] (I, J, P, pm_T0, e) (.inl (some (.int q.1))) (q.2.1, q.2.2, P, pm_T0, e) := by
  obtain ⟨hp, hw1, hw2, hw3, hw4, hw5, hw6, hw7, hw8, hw9, hw10, hw11⟩ := id hw
  have hwa := hw5.1
  have hwb := hw6.1
  have hwc := hw7.1
  have hwd := hw8.1
  unfold f25 at h
  refine fn_s ml25 rfl rfl rfl ?_
  refine al0 c25_0 ?_
  refine r_ks v25_1 ?_
  obtain ⟨⟨ov1, I2, J3⟩, e4, h⟩ := pm_bd_sp h
  dsimp only at h
  refine cv2 q25_3 (v := .int (pm_bi ov1)) (μ1 := (I2, J3, P, pm_T0, e)) (d132 hw (by first | rfl | assumption | decide) e4) rfl ?_
  refine r_ifeq (t := 11) c25_6 rfl (fun h5 => ?_) (fun h5 => ?_)
  · rw [if_neg (pm_bf h5)] at h
    refine al0 c25_11 ?_
    refine r_ks v25_12 ?_
    obtain ⟨⟨ov6, I7, J8⟩, e9, h⟩ := pm_bd_sp h
    dsimp only at h
    refine cv2 q25_14 (v := .int (pm_bi ov6)) (μ1 := (I7, J8, P, pm_T0, e)) (d132 hw (by first | rfl | assumption | decide) e9) rfl ?_
    refine r_ifeq (t := 22) c25_17 rfl (fun h10 => ?_) (fun h10 => ?_)
    · rw [if_neg (pm_bf h10)] at h
      refine al0 c25_22 ?_
      refine r_ks v25_23 ?_
      obtain ⟨⟨ov11, I12, J13⟩, e14, h⟩ := pm_bd_sp h
      dsimp only at h
      refine cv2 q25_25 (v := .int (pm_bi ov11)) (μ1 := (I12, J13, P, pm_T0, e)) (d132 hw (by first | rfl | assumption | decide) e14) rfl ?_
      refine r_ifeq (t := 33) c25_28 rfl (fun h15 => ?_) (fun h15 => ?_)
      · rw [if_neg (pm_bf h15)] at h
        refine al0 c25_33 ?_
        refine r_ks v25_34 ?_
        obtain ⟨⟨ov16, I17, J18⟩, e19, h⟩ := pm_bd_sp h
        dsimp only at h
        refine cv2 q25_36 (v := .int (pm_bi ov16)) (μ1 := (I17, J18, P, pm_T0, e)) (d132 hw (by first | rfl | assumption | decide) e19) rfl ?_
        refine r_ifeq (t := 44) c25_39 rfl (fun h20 => ?_) (fun h20 => ?_)
        · rw [if_neg (pm_bf h20)] at h
          refine al0 c25_44 ?_
          refine r_ks v25_45 ?_
          obtain ⟨⟨ov21, I22, J23⟩, e24, h⟩ := pm_bd_sp h
          dsimp only at h
          refine cv2 q25_47 (v := .int (pm_bi ov21)) (μ1 := (I22, J23, P, pm_T0, e)) (d132 hw (by first | rfl | assumption | decide) e24) rfl ?_
          refine r_ifeq (t := 55) c25_50 rfl (fun h25 => ?_) (fun h25 => ?_)
          · rw [if_neg (pm_bf h25)] at h
            refine al0 c25_55 ?_
            refine r_ks v25_56 ?_
            obtain ⟨⟨ov26, I27, J28⟩, e29, h⟩ := pm_bd_sp h
            dsimp only at h
            refine cv2 q25_58 (v := .int (pm_bi ov26)) (μ1 := (I27, J28, P, pm_T0, e)) (d132 hw (by first | rfl | assumption | decide) e29) rfl ?_
            refine r_ifeq (t := 66) c25_61 rfl (fun h30 => ?_) (fun h30 => ?_)
            · rw [if_neg (pm_bf h30)] at h
              refine al0 c25_66 ?_
              refine r_ks v25_67 ?_
              obtain ⟨⟨ov31, I32, J33⟩, e34, h⟩ := pm_bd_sp h
              dsimp only at h
              refine cv2 q25_69 (v := .int (pm_bi ov31)) (μ1 := (I32, J33, P, pm_T0, e)) (d132 hw (by first | rfl | assumption | decide) e34) rfl ?_
              refine r_ifeq (t := 78) c25_72 rfl (fun h35 => ?_) (fun h35 => ?_)
              · rw [if_neg (pm_bf h35)] at h
                refine al0 c25_78 ?_
                refine r_ks v25_79 ?_
                obtain ⟨⟨ov36, I37, J38⟩, e39, h⟩ := pm_bd_sp h
                dsimp only at h
                refine cv2 q25_81 (v := .int (pm_bi ov36)) (μ1 := (I37, J38, P, pm_T0, e)) (d132 hw (by first | rfl | assumption | decide) e39) rfl ?_
                refine r_ifeq (t := 92) c25_84 rfl (fun h40 => ?_) (fun h40 => ?_)
                · rw [if_neg (pm_bf h40)] at h
                  refine r_ic c25_92 kIm1 ?_
                  cases h
                  exact r_ri c25_93 rt25 rfl rfl
                · rw [if_pos (pm_bt h40)] at h
                  refine r_bi c25_87 kB7 ?_
                  refine r_go (t := 93) c25_89 rfl ?_
                  cases h
                  exact r_ri c25_93 rt25 rfl rfl
              · rw [if_pos (pm_bt h35)] at h
                refine r_bi c25_75 kB6 ?_
                cases h
                exact r_ri c25_77 rt25 rfl rfl
            · rw [if_pos (pm_bt h30)] at h
              refine r_ic c25_64 kI5 ?_
              cases h
              exact r_ri c25_65 rt25 rfl rfl
          · rw [if_pos (pm_bt h25)] at h
            refine r_ic c25_53 kI4 ?_
            cases h
            exact r_ri c25_54 rt25 rfl rfl
        · rw [if_pos (pm_bt h20)] at h
          refine r_ic c25_42 kI3 ?_
          cases h
          exact r_ri c25_43 rt25 rfl rfl
      · rw [if_pos (pm_bt h15)] at h
        refine r_ic c25_31 kI2 ?_
        cases h
        exact r_ri c25_32 rt25 rfl rfl
    · rw [if_pos (pm_bt h10)] at h
      refine r_ic c25_20 kI1 ?_
      cases h
      exact r_ri c25_21 rt25 rfl rfl
  · rw [if_pos (pm_bt h5)] at h
    refine r_ic c25_9 kI0 ?_
    cases h
    exact r_ri c25_10 rt25 rfl rfl
def g21 (a0 : Nat) : Nat → Nat → Nat → Int32 → Int32 → (Nat → Nat → Int32) → (Nat → Nat → Int64) → Option (Unit × (Nat → Nat → Int32) × (Nat → Nat → Int64))
  | 0, _, _, _, _, _, _ => none
  | _ + 1, 0, _, _, _, _, _ => none
  | fu + 1, dep + 1, 0, x2, _, I, J => (g21 a0 fu dep 1 x2 0 I J).bind (fun (ov1, I2, J3) => g21 a0 fu (dep + 1) 3 x2 0 I2 J3)
  | fu + 1, dep + 1, 1, x2, _, I, J => (g21 a0 fu dep 2 x2 0 I J).bind (fun (ov1, I2, J3) => g21 a0 fu (dep + 1) 4 x2 0 I2 J3)
  | fu + 1, dep + 1, 2, x2, _, I, J => (f24  I J).bind (fun (ov1, I2, J3) => (f25  I2 J3).bind (fun (ov5, I6, J7) => (if (v140  I6) = true then (f134 0 999 I6 J7).bind (fun (ov117, I118, J119) => (f17 a0 (14 + ov117) I118 J119).bind (fun (ov121, I122, J123) => some ((), I122, J123))) else (if ov5 = (-1) then (if ov1 = (-1) then (if (v136 40 I6) = true then (if x2.toInt < (6 : Int32).toInt then (if ov1 = (-1) then (f128  I6 J7).bind (fun (ov89, I90, J91) => (g21 a0 fu dep 0 (x2 + 1) 0 I90 J91).bind (fun (ov93, I94, J95) => (f135 41 I94 J95).bind (fun (ov97, I98, J99) => some ((), I98, J99)))) else (f128  I6 J7).bind (fun (ov61, I62, J63) => (f135 91 I62 J63).bind (fun (ov65, I66, J67) => (g21 a0 fu dep 0 (x2 + 1) 0 I66 J67).bind (fun (ov69, I70, J71) => (f135 44 I70 J71).bind (fun (ov73, I74, J75) => (g21 a0 fu dep 0 (x2 + 1) 0 I74 J75).bind (fun (ov77, I78, J79) => (f135 93 I78 J79).bind (fun (ov81, I82, J83) => (f17 a0 ov1 I82 J83).bind (fun (ov85, I86, J87) => some ((), I86, J87))))))))) else (f133 3 I6 J7).bind (fun (ov101, I102, J103) => some ((), I102, J103))) else (f133 1 I6 J7).bind (fun (ov105, I106, J107) => some ((), I106, J107))) else (if x2.toInt < (6 : Int32).toInt then (if ov1 = (-1) then (f128  I6 J7).bind (fun (ov42, I43, J44) => (g21 a0 fu dep 0 (x2 + 1) 0 I43 J44).bind (fun (ov46, I47, J48) => (f135 41 I47 J48).bind (fun (ov50, I51, J52) => some ((), I51, J52)))) else (f128  I6 J7).bind (fun (ov14, I15, J16) => (f135 91 I15 J16).bind (fun (ov18, I19, J20) => (g21 a0 fu dep 0 (x2 + 1) 0 I19 J20).bind (fun (ov22, I23, J24) => (f135 44 I23 J24).bind (fun (ov26, I27, J28) => (g21 a0 fu dep 0 (x2 + 1) 0 I27 J28).bind (fun (ov30, I31, J32) => (f135 93 I31 J32).bind (fun (ov34, I35, J36) => (f17 a0 ov1 I35 J36).bind (fun (ov38, I39, J40) => some ((), I39, J40))))))))) else (f133 3 I6 J7).bind (fun (ov54, I55, J56) => some ((), I55, J56)))) else (f128  I6 J7).bind (fun (ov109, I110, J111) => (f17 a0 ov5 I110 J111).bind (fun (ov113, I114, J115) => some ((), I114, J115)))))))
  | fu + 1, dep + 1, 3, y2, y3, I, J => (if y3.toInt < (150 : Int32).toInt then (if (v136 43 I) = true then (if (v136 43 I) = true then (f128  I J).bind (fun (ov16, I17, J18) => (g21 a0 fu dep 1 y2 0 I17 J18).bind (fun (ov20, I21, J22) => (f17 a0 8 I21 J22).bind (fun (ov24, I25, J26) => g21 a0 fu (dep + 1) 3 y2 (y3 + 1) I25 J26))) else (f128  I J).bind (fun (ov4, I5, J6) => (g21 a0 fu dep 1 y2 0 I5 J6).bind (fun (ov8, I9, J10) => (f17 a0 9 I9 J10).bind (fun (ov12, I13, J14) => g21 a0 fu (dep + 1) 3 y2 (y3 + 1) I13 J14)))) else (if (v136 45 I) = true then (if (v136 43 I) = true then (f128  I J).bind (fun (ov42, I43, J44) => (g21 a0 fu dep 1 y2 0 I43 J44).bind (fun (ov46, I47, J48) => (f17 a0 8 I47 J48).bind (fun (ov50, I51, J52) => g21 a0 fu (dep + 1) 3 y2 (y3 + 1) I51 J52))) else (f128  I J).bind (fun (ov30, I31, J32) => (g21 a0 fu dep 1 y2 0 I31 J32).bind (fun (ov34, I35, J36) => (f17 a0 9 I35 J36).bind (fun (ov38, I39, J40) => g21 a0 fu (dep + 1) 3 y2 (y3 + 1) I39 J40)))) else some ((), I, J))) else some ((), I, J))
  | fu + 1, dep + 1, _ + 4, y2, y3, I, J => (if y3.toInt < (150 : Int32).toInt then (if (v136 42 I) = true then (if (v136 42 I) = true then (f128  I J).bind (fun (ov16, I17, J18) => (g21 a0 fu dep 2 y2 0 I17 J18).bind (fun (ov20, I21, J22) => (f17 a0 10 I21 J22).bind (fun (ov24, I25, J26) => g21 a0 fu (dep + 1) 4 y2 (y3 + 1) I25 J26))) else (f128  I J).bind (fun (ov4, I5, J6) => (g21 a0 fu dep 2 y2 0 I5 J6).bind (fun (ov8, I9, J10) => (f17 a0 11 I9 J10).bind (fun (ov12, I13, J14) => g21 a0 fu (dep + 1) 4 y2 (y3 + 1) I13 J14)))) else (if (v136 47 I) = true then (if (v136 42 I) = true then (f128  I J).bind (fun (ov42, I43, J44) => (g21 a0 fu dep 2 y2 0 I43 J44).bind (fun (ov46, I47, J48) => (f17 a0 10 I47 J48).bind (fun (ov50, I51, J52) => g21 a0 fu (dep + 1) 4 y2 (y3 + 1) I51 J52))) else (f128  I J).bind (fun (ov30, I31, J32) => (g21 a0 fu dep 2 y2 0 I31 J32).bind (fun (ov34, I35, J36) => (f17 a0 11 I35 J36).bind (fun (ov38, I39, J40) => g21 a0 fu (dep + 1) 4 y2 (y3 + 1) I39 J40)))) else some ((), I, J))) else some ((), I, J))
theorem dg21 {X : (Nat → Int32) × Nat} {d : Nat} {P : Nat → Nat → Value} {e r k r2 k2 : Nat} {a0 : Nat} (hw : pm_W P r k r2 k2) (hy0 : pm_lwT P a0) : ∀ fu dep : Nat, (∀ {x2 : Int32} {I : Nat → Nat → Int32} {J : Nat → Nat → Int64} {q : Unit × (Nat → Nat → Int32) × (Nat → Nat → Int64)} (h : g21 a0 fu dep 0 x2 0 I J = some q), pm_Fn X (d + dep + 7) 21 1 [.ref a0, .ref 1, .int x2] (I, J, P, pm_T0, e) (.inl none) (q.2.1, q.2.2, P, pm_T0, e)) ∧ (∀ {x2 : Int32} {I : Nat → Nat → Int32} {J : Nat → Nat → Int64} {q : Unit × (Nat → Nat → Int32) × (Nat → Nat → Int64)} (h : g21 a0 fu dep 1 x2 0 I J = some q), pm_Fn X (d + dep + 7) 22 1 [.ref a0, .ref 1, .int x2] (I, J, P, pm_T0, e) (.inl none) (q.2.1, q.2.2, P, pm_T0, e)) ∧ (∀ {x2 : Int32} {I : Nat → Nat → Int32} {J : Nat → Nat → Int64} {q : Unit × (Nat → Nat → Int32) × (Nat → Nat → Int64)} (h : g21 a0 fu dep 2 x2 0 I J = some q), pm_Fn X (d + dep + 7) 23 1 [.ref a0, .ref 1, .int x2] (I, J, P, pm_T0, e) (.inl none) (q.2.1, q.2.2, P, pm_T0, e)) ∧ (∀ {y2 y3 : Int32} {I : Nat → Nat → Int32} {J : Nat → Nat → Int64} {q : Unit × (Nat → Nat → Int32) × (Nat → Nat → Int64)} {z4 : Value} (h : g21 a0 fu dep 3 y2 y3 I J = some q), pm_Fx X (d + dep + 7) 21 8 [.ref a0, .ref 1, .int y2, .int y3, z4] [] (I, J, P, pm_T0, e) (.inl none) (q.2.1, q.2.2, P, pm_T0, e)) ∧ (∀ {y2 y3 : Int32} {I : Nat → Nat → Int32} {J : Nat → Nat → Int64} {q : Unit × (Nat → Nat → Int32) × (Nat → Nat → Int64)} {z4 : Value} (h : g21 a0 fu dep 4 y2 y3 I J = some q), pm_Fx X (d + dep + 7) 22 8 [.ref a0, .ref 1, .int y2, .int y3, z4] [] (I, J, P, pm_T0, e) (.inl none) (q.2.1, q.2.2, P, pm_T0, e)) := by
  obtain ⟨hp, hw1, hw2, hw3, hw4, hw5, hw6, hw7, hw8, hw9, hw10, hw11⟩ := id hw
  have hwa := hw5.1
  have hwb := hw6.1
  have hwc := hw7.1
  have hwd := hw8.1
  obtain ⟨t0a, t0b, t0c, u0a, u0b⟩ := id hy0
  intro fu
  induction fu with
  | zero => exact fun dep => ⟨(by intro x2 I J q h; cases h), (by intro x2 I J q h; cases h), (by intro x2 I J q h; cases h), (by intro y2 y3 I J q z4 h; cases h), (by intro y2 y3 I J q z4 h; cases h)⟩
  | succ fu ih =>
    intro dep
    cases dep with
    | zero => exact ⟨(by intro x2 I J q h; rw [g21] at h; cases h), (by intro x2 I J q h; rw [g21] at h; cases h), (by intro x2 I J q h; rw [g21] at h; cases h), (by intro y2 y3 I J q z4 h; rw [g21] at h; cases h), (by intro y2 y3 I J q z4 h; rw [g21] at h; cases h)⟩
    | succ dep =>
      have hd : d + (dep + 1) + 7 = d + dep + 7 + 1 := by omega
      refine ⟨?_, ?_, ?_, ?_, ?_⟩
      · intro x2 I J q h
        rw [g21] at h
        rw [hd]
        refine fn_v rc21 (c := 2) (nf := 3) (by first | rfl | assumption) ml21 rfl rfl rfl rfl ?_
        refine al0 c21_0 ?_
        refine al1 c21_1 ?_
        refine il2 c21_2 ?_
        obtain ⟨⟨ov1, I2, J3⟩, e4, h⟩ := pm_bd_sp h
        dsimp only at h
        refine cz3 q21_3 (μ1 := (I2, J3, P, pm_T0, e)) ((ih dep).2.1 e4) rfl ?_
        refine r_ic c21_6 kI0 ?_
        refine is3 c21_7 rfl ?_
        (rw [← hd]; exact (ih (dep + 1)).2.2.2.1 h)
      · intro x2 I J q h
        rw [g21] at h
        rw [hd]
        refine fn_v rc22 (c := 2) (nf := 3) (by first | rfl | assumption) ml22 rfl rfl rfl rfl ?_
        refine al0 c22_0 ?_
        refine al1 c22_1 ?_
        refine il2 c22_2 ?_
        obtain ⟨⟨ov1, I2, J3⟩, e4, h⟩ := pm_bd_sp h
        dsimp only at h
        refine cz3 q22_3 (μ1 := (I2, J3, P, pm_T0, e)) ((ih dep).2.2.1 e4) rfl ?_
        refine r_ic c22_6 kI0 ?_
        refine is3 c22_7 rfl ?_
        (rw [← hd]; exact (ih (dep + 1)).2.2.2.2 h)
      · intro x2 I J q h
        rw [g21] at h
        rw [hd]
        refine fn_v rc23 (c := 2) (nf := 3) (by first | rfl | assumption) ml23 rfl rfl rfl rfl ?_
        refine al1 c23_0 ?_
        obtain ⟨⟨ov1, I2, J3⟩, e4, h⟩ := pm_bd_sp h
        dsimp only at h
        refine cv1 q23_1 (v := .int ov1) (μ1 := (I2, J3, P, pm_T0, e)) (d24 hw e4) rfl ?_
        refine is3 c23_4 rfl ?_
        refine al1 c23_5 ?_
        obtain ⟨⟨ov5, I6, J7⟩, e8, h⟩ := pm_bd_sp h
        dsimp only at h
        refine cv1 q23_6 (v := .int ov5) (μ1 := (I6, J7, P, pm_T0, e)) (d25 hw e8) rfl ?_
        refine is4 c23_9 rfl ?_
        refine al1 c23_11 ?_
        refine cv1 q23_12 (d140 hw rfl) rfl ?_
        refine r_ifeq (t := 36) c23_15 rfl (fun h9 => ?_) (fun h9 => ?_)
        · rw [if_neg (pm_bf h9)] at h
          refine il4 c23_36 ?_
          refine r_ic c23_38 kIm1 ?_
          refine r_iceq (t := 55) c23_39 rfl (fun h10 => ?_) (fun h10 => ?_)
          · rw [if_pos h10] at h
            refine il3 c23_55 ?_
            refine r_ic c23_56 kIm1 ?_
            refine r_icne (t := 77) c23_57 rfl (fun h11 => ?_) (fun h11 => ?_)
            · rw [if_neg h11] at h
              refine il2 c23_77 ?_
              refine r_bi c23_78 kB6 ?_
              refine r_iclt (t := 91) c23_80 rfl (fun h12 => ?_) (fun h12 => ?_)
              · rw [if_pos h12] at h
                refine il3 c23_91 ?_
                refine r_ic c23_92 kIm1 ?_
                refine r_icne (t := 117) c23_93 rfl (fun h13 => ?_) (fun h13 => ?_)
                · rw [if_neg h13] at h
                  refine al1 c23_117 ?_
                  obtain ⟨⟨ov14, I15, J16⟩, e17, h⟩ := pm_bd_sp h
                  dsimp only at h
                  refine cz1 q23_118 (μ1 := (I15, J16, P, pm_T0, e)) (d128 hw e17) rfl ?_
                  refine al1 c23_121 ?_
                  refine r_bi c23_122 kB91 ?_
                  obtain ⟨⟨ov18, I19, J20⟩, e21, h⟩ := pm_bd_sp h
                  dsimp only at h
                  refine cz2 q23_124 (μ1 := (I19, J20, P, pm_T0, e)) (d135 hw e21) rfl ?_
                  refine al0 c23_127 ?_
                  refine al1 c23_128 ?_
                  refine il2 c23_129 ?_
                  refine r_ic c23_130 kI1 ?_
                  refine r_iadd c23_131 ?_
                  obtain ⟨⟨ov22, I23, J24⟩, e25, h⟩ := pm_bd_sp h
                  dsimp only at h
                  refine cz3 q23_132 (μ1 := (I23, J24, P, pm_T0, e)) ((ih dep).1 e25) rfl ?_
                  refine al1 c23_135 ?_
                  refine r_bi c23_136 kB44 ?_
                  obtain ⟨⟨ov26, I27, J28⟩, e29, h⟩ := pm_bd_sp h
                  dsimp only at h
                  refine cz2 q23_138 (μ1 := (I27, J28, P, pm_T0, e)) (d135 hw e29) rfl ?_
                  refine al0 c23_141 ?_
                  refine al1 c23_142 ?_
                  refine il2 c23_143 ?_
                  refine r_ic c23_144 kI1 ?_
                  refine r_iadd c23_145 ?_
                  obtain ⟨⟨ov30, I31, J32⟩, e33, h⟩ := pm_bd_sp h
                  dsimp only at h
                  refine cz3 q23_146 (μ1 := (I31, J32, P, pm_T0, e)) ((ih dep).1 e33) rfl ?_
                  refine al1 c23_149 ?_
                  refine r_bi c23_150 kB93 ?_
                  obtain ⟨⟨ov34, I35, J36⟩, e37, h⟩ := pm_bd_sp h
                  dsimp only at h
                  refine cz2 q23_152 (μ1 := (I35, J36, P, pm_T0, e)) (d135 hw e37) rfl ?_
                  refine al0 c23_155 ?_
                  refine il3 c23_156 ?_
                  obtain ⟨⟨ov38, I39, J40⟩, e41, h⟩ := pm_bd_sp h
                  dsimp only at h
                  refine cz2 q23_157 (μ1 := (I39, J40, P, pm_T0, e)) (d17 hw (by first | rfl | assumption | decide) e41) rfl ?_
                  cases h
                  exact r_rv c23_160 rt23 rfl
                · rw [if_pos h13] at h
                  refine al1 c23_96 ?_
                  obtain ⟨⟨ov42, I43, J44⟩, e45, h⟩ := pm_bd_sp h
                  dsimp only at h
                  refine cz1 q23_97 (μ1 := (I43, J44, P, pm_T0, e)) (d128 hw e45) rfl ?_
                  refine al0 c23_100 ?_
                  refine al1 c23_101 ?_
                  refine il2 c23_102 ?_
                  refine r_ic c23_103 kI1 ?_
                  refine r_iadd c23_104 ?_
                  obtain ⟨⟨ov46, I47, J48⟩, e49, h⟩ := pm_bd_sp h
                  dsimp only at h
                  refine cz3 q23_105 (μ1 := (I47, J48, P, pm_T0, e)) ((ih dep).1 e49) rfl ?_
                  refine al1 c23_108 ?_
                  refine r_bi c23_109 kB41 ?_
                  obtain ⟨⟨ov50, I51, J52⟩, e53, h⟩ := pm_bd_sp h
                  dsimp only at h
                  refine cz2 q23_111 (μ1 := (I51, J52, P, pm_T0, e)) (d135 hw e53) rfl ?_
                  refine r_go (t := 160) c23_114 rfl ?_
                  cases h
                  exact r_rv c23_160 rt23 rfl
              · rw [if_neg (Int.not_lt.mpr h12)] at h
                refine al1 c23_83 ?_
                refine r_ic c23_84 kI3 ?_
                obtain ⟨⟨ov54, I55, J56⟩, e57, h⟩ := pm_bd_sp h
                dsimp only at h
                refine cz2 q23_85 (μ1 := (I55, J56, P, pm_T0, e)) (d133 hw e57) rfl ?_
                refine r_go (t := 160) c23_88 rfl ?_
                cases h
                exact r_rv c23_160 rt23 rfl
            · rw [if_pos h11] at h
              refine al1 c23_60 ?_
              refine r_bi c23_61 kB40 ?_
              refine cv2 q23_63 (d136 hw rfl) rfl ?_
              refine r_ifne (t := 77) c23_66 rfl (fun h58 => ?_) (fun h58 => ?_)
              · rw [if_pos (pm_bt h58)] at h
                refine il2 c23_77 ?_
                refine r_bi c23_78 kB6 ?_
                refine r_iclt (t := 91) c23_80 rfl (fun h59 => ?_) (fun h59 => ?_)
                · rw [if_pos h59] at h
                  refine il3 c23_91 ?_
                  refine r_ic c23_92 kIm1 ?_
                  refine r_icne (t := 117) c23_93 rfl (fun h60 => ?_) (fun h60 => ?_)
                  · rw [if_neg h60] at h
                    refine al1 c23_117 ?_
                    obtain ⟨⟨ov61, I62, J63⟩, e64, h⟩ := pm_bd_sp h
                    dsimp only at h
                    refine cz1 q23_118 (μ1 := (I62, J63, P, pm_T0, e)) (d128 hw e64) rfl ?_
                    refine al1 c23_121 ?_
                    refine r_bi c23_122 kB91 ?_
                    obtain ⟨⟨ov65, I66, J67⟩, e68, h⟩ := pm_bd_sp h
                    dsimp only at h
                    refine cz2 q23_124 (μ1 := (I66, J67, P, pm_T0, e)) (d135 hw e68) rfl ?_
                    refine al0 c23_127 ?_
                    refine al1 c23_128 ?_
                    refine il2 c23_129 ?_
                    refine r_ic c23_130 kI1 ?_
                    refine r_iadd c23_131 ?_
                    obtain ⟨⟨ov69, I70, J71⟩, e72, h⟩ := pm_bd_sp h
                    dsimp only at h
                    refine cz3 q23_132 (μ1 := (I70, J71, P, pm_T0, e)) ((ih dep).1 e72) rfl ?_
                    refine al1 c23_135 ?_
                    refine r_bi c23_136 kB44 ?_
                    obtain ⟨⟨ov73, I74, J75⟩, e76, h⟩ := pm_bd_sp h
                    dsimp only at h
                    refine cz2 q23_138 (μ1 := (I74, J75, P, pm_T0, e)) (d135 hw e76) rfl ?_
                    refine al0 c23_141 ?_
                    refine al1 c23_142 ?_
                    refine il2 c23_143 ?_
                    refine r_ic c23_144 kI1 ?_
                    refine r_iadd c23_145 ?_
                    obtain ⟨⟨ov77, I78, J79⟩, e80, h⟩ := pm_bd_sp h
                    dsimp only at h
                    refine cz3 q23_146 (μ1 := (I78, J79, P, pm_T0, e)) ((ih dep).1 e80) rfl ?_
                    refine al1 c23_149 ?_
                    refine r_bi c23_150 kB93 ?_
                    obtain ⟨⟨ov81, I82, J83⟩, e84, h⟩ := pm_bd_sp h
                    dsimp only at h
                    refine cz2 q23_152 (μ1 := (I82, J83, P, pm_T0, e)) (d135 hw e84) rfl ?_
                    refine al0 c23_155 ?_
                    refine il3 c23_156 ?_
                    obtain ⟨⟨ov85, I86, J87⟩, e88, h⟩ := pm_bd_sp h
                    dsimp only at h
                    refine cz2 q23_157 (μ1 := (I86, J87, P, pm_T0, e)) (d17 hw (by first | rfl | assumption | decide) e88) rfl ?_
                    cases h
                    exact r_rv c23_160 rt23 rfl
                  · rw [if_pos h60] at h
                    refine al1 c23_96 ?_
                    obtain ⟨⟨ov89, I90, J91⟩, e92, h⟩ := pm_bd_sp h
                    dsimp only at h
                    refine cz1 q23_97 (μ1 := (I90, J91, P, pm_T0, e)) (d128 hw e92) rfl ?_
                    refine al0 c23_100 ?_
                    refine al1 c23_101 ?_
                    refine il2 c23_102 ?_
                    refine r_ic c23_103 kI1 ?_
                    refine r_iadd c23_104 ?_
                    obtain ⟨⟨ov93, I94, J95⟩, e96, h⟩ := pm_bd_sp h
                    dsimp only at h
                    refine cz3 q23_105 (μ1 := (I94, J95, P, pm_T0, e)) ((ih dep).1 e96) rfl ?_
                    refine al1 c23_108 ?_
                    refine r_bi c23_109 kB41 ?_
                    obtain ⟨⟨ov97, I98, J99⟩, e100, h⟩ := pm_bd_sp h
                    dsimp only at h
                    refine cz2 q23_111 (μ1 := (I98, J99, P, pm_T0, e)) (d135 hw e100) rfl ?_
                    refine r_go (t := 160) c23_114 rfl ?_
                    cases h
                    exact r_rv c23_160 rt23 rfl
                · rw [if_neg (Int.not_lt.mpr h59)] at h
                  refine al1 c23_83 ?_
                  refine r_ic c23_84 kI3 ?_
                  obtain ⟨⟨ov101, I102, J103⟩, e104, h⟩ := pm_bd_sp h
                  dsimp only at h
                  refine cz2 q23_85 (μ1 := (I102, J103, P, pm_T0, e)) (d133 hw e104) rfl ?_
                  refine r_go (t := 160) c23_88 rfl ?_
                  cases h
                  exact r_rv c23_160 rt23 rfl
              · rw [if_neg (pm_bf h58)] at h
                refine al1 c23_69 ?_
                refine r_ic c23_70 kI1 ?_
                obtain ⟨⟨ov105, I106, J107⟩, e108, h⟩ := pm_bd_sp h
                dsimp only at h
                refine cz2 q23_71 (μ1 := (I106, J107, P, pm_T0, e)) (d133 hw e108) rfl ?_
                refine r_go (t := 160) c23_74 rfl ?_
                cases h
                exact r_rv c23_160 rt23 rfl
          · rw [if_neg h10] at h
            refine al1 c23_42 ?_
            obtain ⟨⟨ov109, I110, J111⟩, e112, h⟩ := pm_bd_sp h
            dsimp only at h
            refine cz1 q23_43 (μ1 := (I110, J111, P, pm_T0, e)) (d128 hw e112) rfl ?_
            refine al0 c23_46 ?_
            refine il4 c23_47 ?_
            obtain ⟨⟨ov113, I114, J115⟩, e116, h⟩ := pm_bd_sp h
            dsimp only at h
            refine cz2 q23_49 (μ1 := (I114, J115, P, pm_T0, e)) (d17 hw (by first | rfl | assumption | decide) e116) rfl ?_
            refine r_go (t := 160) c23_52 rfl ?_
            cases h
            exact r_rv c23_160 rt23 rfl
        · rw [if_pos (pm_bt h9)] at h
          refine al0 c23_18 ?_
          refine r_bi c23_19 kB14 ?_
          refine al1 c23_21 ?_
          refine r_ic c23_22 kI0 ?_
          refine r_si c23_23 kS999 ?_
          obtain ⟨⟨ov117, I118, J119⟩, e120, h⟩ := pm_bd_sp h
          dsimp only at h
          refine cv3 q23_26 (v := .int ov117) (μ1 := (I118, J119, P, pm_T0, e)) (d134 hw e120) rfl ?_
          refine r_iadd c23_29 ?_
          obtain ⟨⟨ov121, I122, J123⟩, e124, h⟩ := pm_bd_sp h
          dsimp only at h
          refine cz2 q23_30 (μ1 := (I122, J123, P, pm_T0, e)) (d17 hw (by first | rfl | assumption | decide) e124) rfl ?_
          refine r_go (t := 160) c23_33 rfl ?_
          cases h
          exact r_rv c23_160 rt23 rfl
      · intro y2 y3 I J q z4 h
        rw [g21] at h
        rw [hd]
        refine il3 c21_8 ?_
        refine r_si c21_9 kS150 ?_
        refine r_icge (t := 73) c21_12 rfl (fun h1 => ?_) (fun h1 => ?_)
        · rw [if_neg (Int.not_lt.mpr h1)] at h
          cases h
          exact r_rv c21_73 rt21 rfl
        · rw [if_pos h1] at h
          refine al1 c21_15 ?_
          refine r_bi c21_16 kB43 ?_
          refine cv2 q21_18 (d136 hw rfl) rfl ?_
          refine r_ifne (t := 33) c21_21 rfl (fun h2 => ?_) (fun h2 => ?_)
          · rw [if_pos (pm_bt h2)] at h
            refine al1 c21_33 ?_
            refine r_bi c21_34 kB43 ?_
            refine cv2 q21_36 (d136 hw rfl) rfl ?_
            refine r_ifeq (t := 47) c21_39 rfl (fun h3 => ?_) (fun h3 => ?_)
            · rw [if_neg (pm_bf h3)] at h
              refine r_bi c21_47 kB9 ?_
              refine is4 c21_49 rfl ?_
              refine al1 c21_51 ?_
              obtain ⟨⟨ov4, I5, J6⟩, e7, h⟩ := pm_bd_sp h
              dsimp only at h
              refine cz1 q21_52 (μ1 := (I5, J6, P, pm_T0, e)) (d128 hw e7) rfl ?_
              refine al0 c21_55 ?_
              refine al1 c21_56 ?_
              refine il2 c21_57 ?_
              obtain ⟨⟨ov8, I9, J10⟩, e11, h⟩ := pm_bd_sp h
              dsimp only at h
              refine cz3 q21_58 (μ1 := (I9, J10, P, pm_T0, e)) ((ih dep).2.1 e11) rfl ?_
              refine al0 c21_61 ?_
              refine il4 c21_62 ?_
              obtain ⟨⟨ov12, I13, J14⟩, e15, h⟩ := pm_bd_sp h
              dsimp only at h
              refine cz2 q21_64 (μ1 := (I13, J14, P, pm_T0, e)) (d17 hw (by first | rfl | assumption | decide) e15) rfl ?_
              refine ii3 c21_67 kI1 rfl ?_
              refine r_go (t := 8) c21_70 rfl ?_
              (rw [← hd]; exact (ih (dep + 1)).2.2.2.1 h)
            · rw [if_pos (pm_bt h3)] at h
              refine r_bi c21_42 kB8 ?_
              refine r_go (t := 49) c21_44 rfl ?_
              refine is4 c21_49 rfl ?_
              refine al1 c21_51 ?_
              obtain ⟨⟨ov16, I17, J18⟩, e19, h⟩ := pm_bd_sp h
              dsimp only at h
              refine cz1 q21_52 (μ1 := (I17, J18, P, pm_T0, e)) (d128 hw e19) rfl ?_
              refine al0 c21_55 ?_
              refine al1 c21_56 ?_
              refine il2 c21_57 ?_
              obtain ⟨⟨ov20, I21, J22⟩, e23, h⟩ := pm_bd_sp h
              dsimp only at h
              refine cz3 q21_58 (μ1 := (I21, J22, P, pm_T0, e)) ((ih dep).2.1 e23) rfl ?_
              refine al0 c21_61 ?_
              refine il4 c21_62 ?_
              obtain ⟨⟨ov24, I25, J26⟩, e27, h⟩ := pm_bd_sp h
              dsimp only at h
              refine cz2 q21_64 (μ1 := (I25, J26, P, pm_T0, e)) (d17 hw (by first | rfl | assumption | decide) e27) rfl ?_
              refine ii3 c21_67 kI1 rfl ?_
              refine r_go (t := 8) c21_70 rfl ?_
              (rw [← hd]; exact (ih (dep + 1)).2.2.2.1 h)
          · rw [if_neg (pm_bf h2)] at h
            refine al1 c21_24 ?_
            refine r_bi c21_25 kB45 ?_
            refine cv2 q21_27 (d136 hw rfl) rfl ?_
            refine r_ifeq (t := 73) c21_30 rfl (fun h28 => ?_) (fun h28 => ?_)
            · rw [if_neg (pm_bf h28)] at h
              cases h
              exact r_rv c21_73 rt21 rfl
            · rw [if_pos (pm_bt h28)] at h
              refine al1 c21_33 ?_
              refine r_bi c21_34 kB43 ?_
              refine cv2 q21_36 (d136 hw rfl) rfl ?_
              refine r_ifeq (t := 47) c21_39 rfl (fun h29 => ?_) (fun h29 => ?_)
              · rw [if_neg (pm_bf h29)] at h
                refine r_bi c21_47 kB9 ?_
                refine is4 c21_49 rfl ?_
                refine al1 c21_51 ?_
                obtain ⟨⟨ov30, I31, J32⟩, e33, h⟩ := pm_bd_sp h
                dsimp only at h
                refine cz1 q21_52 (μ1 := (I31, J32, P, pm_T0, e)) (d128 hw e33) rfl ?_
                refine al0 c21_55 ?_
                refine al1 c21_56 ?_
                refine il2 c21_57 ?_
                obtain ⟨⟨ov34, I35, J36⟩, e37, h⟩ := pm_bd_sp h
                dsimp only at h
                refine cz3 q21_58 (μ1 := (I35, J36, P, pm_T0, e)) ((ih dep).2.1 e37) rfl ?_
                refine al0 c21_61 ?_
                refine il4 c21_62 ?_
                obtain ⟨⟨ov38, I39, J40⟩, e41, h⟩ := pm_bd_sp h
                dsimp only at h
                refine cz2 q21_64 (μ1 := (I39, J40, P, pm_T0, e)) (d17 hw (by first | rfl | assumption | decide) e41) rfl ?_
                refine ii3 c21_67 kI1 rfl ?_
                refine r_go (t := 8) c21_70 rfl ?_
                (rw [← hd]; exact (ih (dep + 1)).2.2.2.1 h)
              · rw [if_pos (pm_bt h29)] at h
                refine r_bi c21_42 kB8 ?_
                refine r_go (t := 49) c21_44 rfl ?_
                refine is4 c21_49 rfl ?_
                refine al1 c21_51 ?_
                obtain ⟨⟨ov42, I43, J44⟩, e45, h⟩ := pm_bd_sp h
                dsimp only at h
                refine cz1 q21_52 (μ1 := (I43, J44, P, pm_T0, e)) (d128 hw e45) rfl ?_
                refine al0 c21_55 ?_
                refine al1 c21_56 ?_
                refine il2 c21_57 ?_
                obtain ⟨⟨ov46, I47, J48⟩, e49, h⟩ := pm_bd_sp h
                dsimp only at h
                refine cz3 q21_58 (μ1 := (I47, J48, P, pm_T0, e)) ((ih dep).2.1 e49) rfl ?_
                refine al0 c21_61 ?_
                refine il4 c21_62 ?_
                obtain ⟨⟨ov50, I51, J52⟩, e53, h⟩ := pm_bd_sp h
                dsimp only at h
                refine cz2 q21_64 (μ1 := (I51, J52, P, pm_T0, e)) (d17 hw (by first | rfl | assumption | decide) e53) rfl ?_
                refine ii3 c21_67 kI1 rfl ?_
                refine r_go (t := 8) c21_70 rfl ?_
                (rw [← hd]; exact (ih (dep + 1)).2.2.2.1 h)
      · intro y2 y3 I J q z4 h
        rw [g21] at h
        rw [hd]
        refine il3 c22_8 ?_
        refine r_si c22_9 kS150 ?_
        refine r_icge (t := 73) c22_12 rfl (fun h1 => ?_) (fun h1 => ?_)
        · rw [if_neg (Int.not_lt.mpr h1)] at h
          cases h
          exact r_rv c22_73 rt22 rfl
        · rw [if_pos h1] at h
          refine al1 c22_15 ?_
          refine r_bi c22_16 kB42 ?_
          refine cv2 q22_18 (d136 hw rfl) rfl ?_
          refine r_ifne (t := 33) c22_21 rfl (fun h2 => ?_) (fun h2 => ?_)
          · rw [if_pos (pm_bt h2)] at h
            refine al1 c22_33 ?_
            refine r_bi c22_34 kB42 ?_
            refine cv2 q22_36 (d136 hw rfl) rfl ?_
            refine r_ifeq (t := 47) c22_39 rfl (fun h3 => ?_) (fun h3 => ?_)
            · rw [if_neg (pm_bf h3)] at h
              refine r_bi c22_47 kB11 ?_
              refine is4 c22_49 rfl ?_
              refine al1 c22_51 ?_
              obtain ⟨⟨ov4, I5, J6⟩, e7, h⟩ := pm_bd_sp h
              dsimp only at h
              refine cz1 q22_52 (μ1 := (I5, J6, P, pm_T0, e)) (d128 hw e7) rfl ?_
              refine al0 c22_55 ?_
              refine al1 c22_56 ?_
              refine il2 c22_57 ?_
              obtain ⟨⟨ov8, I9, J10⟩, e11, h⟩ := pm_bd_sp h
              dsimp only at h
              refine cz3 q22_58 (μ1 := (I9, J10, P, pm_T0, e)) ((ih dep).2.2.1 e11) rfl ?_
              refine al0 c22_61 ?_
              refine il4 c22_62 ?_
              obtain ⟨⟨ov12, I13, J14⟩, e15, h⟩ := pm_bd_sp h
              dsimp only at h
              refine cz2 q22_64 (μ1 := (I13, J14, P, pm_T0, e)) (d17 hw (by first | rfl | assumption | decide) e15) rfl ?_
              refine ii3 c22_67 kI1 rfl ?_
              refine r_go (t := 8) c22_70 rfl ?_
              (rw [← hd]; exact (ih (dep + 1)).2.2.2.2 h)
            · rw [if_pos (pm_bt h3)] at h
              refine r_bi c22_42 kB10 ?_
              refine r_go (t := 49) c22_44 rfl ?_
              refine is4 c22_49 rfl ?_
              refine al1 c22_51 ?_
              obtain ⟨⟨ov16, I17, J18⟩, e19, h⟩ := pm_bd_sp h
              dsimp only at h
              refine cz1 q22_52 (μ1 := (I17, J18, P, pm_T0, e)) (d128 hw e19) rfl ?_
              refine al0 c22_55 ?_
              refine al1 c22_56 ?_
              refine il2 c22_57 ?_
              obtain ⟨⟨ov20, I21, J22⟩, e23, h⟩ := pm_bd_sp h
              dsimp only at h
              refine cz3 q22_58 (μ1 := (I21, J22, P, pm_T0, e)) ((ih dep).2.2.1 e23) rfl ?_
              refine al0 c22_61 ?_
              refine il4 c22_62 ?_
              obtain ⟨⟨ov24, I25, J26⟩, e27, h⟩ := pm_bd_sp h
              dsimp only at h
              refine cz2 q22_64 (μ1 := (I25, J26, P, pm_T0, e)) (d17 hw (by first | rfl | assumption | decide) e27) rfl ?_
              refine ii3 c22_67 kI1 rfl ?_
              refine r_go (t := 8) c22_70 rfl ?_
              (rw [← hd]; exact (ih (dep + 1)).2.2.2.2 h)
          · rw [if_neg (pm_bf h2)] at h
            refine al1 c22_24 ?_
            refine r_bi c22_25 kB47 ?_
            refine cv2 q22_27 (d136 hw rfl) rfl ?_
            refine r_ifeq (t := 73) c22_30 rfl (fun h28 => ?_) (fun h28 => ?_)
            · rw [if_neg (pm_bf h28)] at h
              cases h
              exact r_rv c22_73 rt22 rfl
            · rw [if_pos (pm_bt h28)] at h
              refine al1 c22_33 ?_
              refine r_bi c22_34 kB42 ?_
              refine cv2 q22_36 (d136 hw rfl) rfl ?_
              refine r_ifeq (t := 47) c22_39 rfl (fun h29 => ?_) (fun h29 => ?_)
              · rw [if_neg (pm_bf h29)] at h
                refine r_bi c22_47 kB11 ?_
                refine is4 c22_49 rfl ?_
                refine al1 c22_51 ?_
                obtain ⟨⟨ov30, I31, J32⟩, e33, h⟩ := pm_bd_sp h
                dsimp only at h
                refine cz1 q22_52 (μ1 := (I31, J32, P, pm_T0, e)) (d128 hw e33) rfl ?_
                refine al0 c22_55 ?_
                refine al1 c22_56 ?_
                refine il2 c22_57 ?_
                obtain ⟨⟨ov34, I35, J36⟩, e37, h⟩ := pm_bd_sp h
                dsimp only at h
                refine cz3 q22_58 (μ1 := (I35, J36, P, pm_T0, e)) ((ih dep).2.2.1 e37) rfl ?_
                refine al0 c22_61 ?_
                refine il4 c22_62 ?_
                obtain ⟨⟨ov38, I39, J40⟩, e41, h⟩ := pm_bd_sp h
                dsimp only at h
                refine cz2 q22_64 (μ1 := (I39, J40, P, pm_T0, e)) (d17 hw (by first | rfl | assumption | decide) e41) rfl ?_
                refine ii3 c22_67 kI1 rfl ?_
                refine r_go (t := 8) c22_70 rfl ?_
                (rw [← hd]; exact (ih (dep + 1)).2.2.2.2 h)
              · rw [if_pos (pm_bt h29)] at h
                refine r_bi c22_42 kB10 ?_
                refine r_go (t := 49) c22_44 rfl ?_
                refine is4 c22_49 rfl ?_
                refine al1 c22_51 ?_
                obtain ⟨⟨ov42, I43, J44⟩, e45, h⟩ := pm_bd_sp h
                dsimp only at h
                refine cz1 q22_52 (μ1 := (I43, J44, P, pm_T0, e)) (d128 hw e45) rfl ?_
                refine al0 c22_55 ?_
                refine al1 c22_56 ?_
                refine il2 c22_57 ?_
                obtain ⟨⟨ov46, I47, J48⟩, e49, h⟩ := pm_bd_sp h
                dsimp only at h
                refine cz3 q22_58 (μ1 := (I47, J48, P, pm_T0, e)) ((ih dep).2.2.1 e49) rfl ?_
                refine al0 c22_61 ?_
                refine il4 c22_62 ?_
                obtain ⟨⟨ov50, I51, J52⟩, e53, h⟩ := pm_bd_sp h
                dsimp only at h
                refine cz2 q22_64 (μ1 := (I51, J52, P, pm_T0, e)) (d17 hw (by first | rfl | assumption | decide) e53) rfl ?_
                refine ii3 c22_67 kI1 rfl ?_
                refine r_go (t := 8) c22_70 rfl ?_
                (rw [← hd]; exact (ih (dep + 1)).2.2.2.2 h)
def f21 (a0 : Nat) (x2 : Int32) (I : Nat → Nat → Int32) (J : Nat → Nat → Int64) : Option (Unit × (Nat → Nat → Int32) × (Nat → Nat → Int64)) := g21 a0 pm_FU 40 0 x2 0 I J
theorem d21 {X : (Nat → Int32) × Nat} {d : Nat} {I : Nat → Nat → Int32} {J : Nat → Nat → Int64} {P : Nat → Nat → Value} {e r k r2 k2 : Nat} {a0 : Nat} {x2 : Int32} {q : Unit × (Nat → Nat → Int32) × (Nat → Nat → Int64)} (hw : pm_W P r k r2 k2) (hy0 : pm_lwT P a0) (h : f21 a0 x2 I J = some q) : pm_Fn X (d + 47) 21 1 [.ref a0, .ref 1, .int x2] (I, J, P, pm_T0, e) (.inl none) (q.2.1, q.2.2, P, pm_T0, e) := by
  have hd : d + 40 + 7 = d + 47 := by omega
  rw [← hd]
  exact (dg21 hw hy0 pm_FU 40).1 h
def f22 (a0 : Nat) (x2 : Int32) (I : Nat → Nat → Int32) (J : Nat → Nat → Int64) : Option (Unit × (Nat → Nat → Int32) × (Nat → Nat → Int64)) := g21 a0 pm_FU 40 1 x2 0 I J
theorem d22 {X : (Nat → Int32) × Nat} {d : Nat} {I : Nat → Nat → Int32} {J : Nat → Nat → Int64} {P : Nat → Nat → Value} {e r k r2 k2 : Nat} {a0 : Nat} {x2 : Int32} {q : Unit × (Nat → Nat → Int32) × (Nat → Nat → Int64)} (hw : pm_W P r k r2 k2) (hy0 : pm_lwT P a0) (h : f22 a0 x2 I J = some q) : pm_Fn X (d + 47) 22 1 [.ref a0, .ref 1, .int x2] (I, J, P, pm_T0, e) (.inl none) (q.2.1, q.2.2, P, pm_T0, e) := by
  have hd : d + 40 + 7 = d + 47 := by omega
  rw [← hd]
  exact (dg21 hw hy0 pm_FU 40).2.1 h
def f23 (a0 : Nat) (x2 : Int32) (I : Nat → Nat → Int32) (J : Nat → Nat → Int64) : Option (Unit × (Nat → Nat → Int32) × (Nat → Nat → Int64)) := g21 a0 pm_FU 40 2 x2 0 I J
theorem d23 {X : (Nat → Int32) × Nat} {d : Nat} {I : Nat → Nat → Int32} {J : Nat → Nat → Int64} {P : Nat → Nat → Value} {e r k r2 k2 : Nat} {a0 : Nat} {x2 : Int32} {q : Unit × (Nat → Nat → Int32) × (Nat → Nat → Int64)} (hw : pm_W P r k r2 k2) (hy0 : pm_lwT P a0) (h : f23 a0 x2 I J = some q) : pm_Fn X (d + 47) 23 1 [.ref a0, .ref 1, .int x2] (I, J, P, pm_T0, e) (.inl none) (q.2.1, q.2.2, P, pm_T0, e) := by
  have hd : d + 40 + 7 = d + 47 := by omega
  rw [← hd]
  exact (dg21 hw hy0 pm_FU 40).2.2.1 h
def f20 (a0 : Nat) (I : Nat → Nat → Int32) (J : Nat → Nat → Int64) : Option (Unit × (Nat → Nat → Int32) × (Nat → Nat → Int64)) := pm_lt (pm_w I a0 2 0) (fun I1 => (f21 a0 0 I1 J).bind (fun (ov2, I3, J4) => (if (v131  I3) = true then (f133 1 I3 J4).bind (fun (ov7, I8, J9) => some ((), I8, J9)) else some ((), I3, J4))))
theorem d20 {X : (Nat → Int32) × Nat} {d : Nat} {I : Nat → Nat → Int32} {J : Nat → Nat → Int64} {P : Nat → Nat → Value} {e r k r2 k2 : Nat} {a0 : Nat} {q : Unit × (Nat → Nat → Int32) × (Nat → Nat → Int64)} (hw : pm_W P r k r2 k2) (hy0 : pm_lwT P a0) (h : f20 a0 I J = some q) : pm_Fn X (d + 48) 20 1 [.ref a0, .ref 1] (I, J, P, pm_T0, e) (.inl none) (q.2.1, q.2.2, P, pm_T0, e) := by
  obtain ⟨hp, hw1, hw2, hw3, hw4, hw5, hw6, hw7, hw8, hw9, hw10, hw11⟩ := id hw
  have hwa := hw5.1
  have hwb := hw6.1
  have hwc := hw7.1
  have hwd := hw8.1
  obtain ⟨t0a, t0b, t0c, u0a, u0b⟩ := id hy0
  unfold f20 at h
  refine fn_v rc20 (c := 2) (nf := 3) (by first | rfl | assumption) ml20 rfl rfl rfl rfl ?_
  refine al0 c20_0 ?_
  refine r_ic c20_1 kI0 ?_
  refine w_pi p20_2 (by first | rfl | assumption) rfl ?_
  rw [pm_lt_eq] at h
  generalize pm_w I a0 2 0 = I1 at h ⊢
  refine al0 c20_5 ?_
  refine al1 c20_6 ?_
  refine r_ic c20_7 kI0 ?_
  obtain ⟨⟨ov2, I3, J4⟩, e5, h⟩ := pm_bd_sp h
  dsimp only at h
  refine cz3 q20_8 (μ1 := (I3, J4, P, pm_T0, e)) (d21 hw (by first | rfl | assumption | decide) e5) rfl ?_
  refine al1 c20_11 ?_
  refine cv1 q20_12 (d131 hw rfl) rfl ?_
  refine r_ifeq (t := 23) c20_15 rfl (fun h6 => ?_) (fun h6 => ?_)
  · rw [if_neg (pm_bf h6)] at h
    cases h
    exact r_rv c20_23 rt20 rfl
  · rw [if_pos (pm_bt h6)] at h
    refine al1 c20_18 ?_
    refine r_ic c20_19 kI1 ?_
    obtain ⟨⟨ov7, I8, J9⟩, e10, h⟩ := pm_bd_sp h
    dsimp only at h
    refine cz2 q20_20 (μ1 := (I8, J9, P, pm_T0, e)) (d133 hw e10) rfl ?_
    cases h
    exact r_rv c20_23 rt20 rfl
