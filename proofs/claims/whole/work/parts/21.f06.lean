/-! THE METHODS AS FUNCTIONS OF THE MEMORY (written by dec.py) -/
def f216  (I : Nat → Nat → Int32) (J : Nat → Nat → Int64) : Option (Unit × (Nat → Nat → Int32) × (Nat → Nat → Int64)) := pm_lt (pm_w I 127 14 0) (fun I1 => pm_lt (pm_w I1 127 15 0) (fun I2 => pm_lt (pm_w I2 127 16 60) (fun I3 => pm_lt (pm_w I3 127 17 8) (fun I4 => some ((), I4, J)))))
theorem d216 {X : (Nat → Int32) × Nat} {d : Nat} {I : Nat → Nat → Int32} {J : Nat → Nat → Int64} {P : Nat → Nat → Value} {e r k r2 k2 : Nat}  {q : Unit × (Nat → Nat → Int32) × (Nat → Nat → Int64)} (hw : pm_W P r k r2 k2)  (h : f216  I J = some q) : pm_Fn X (d) 216 1 [.ref 127] (I, J, P, pm_T0, e) (.inl none) (q.2.1, q.2.2, P, pm_T0, e) := by
  obtain ⟨hp, hw1, hw2, hw3, hw4, hw5, hw6, hw7, hw8, hw9, hw10, hw11⟩ := id hw
  have hwa := hw5.1
  have hwb := hw6.1
  have hwc := hw7.1
  have hwd := hw8.1
  unfold f216 at h
  refine fn_v rc216 (c := 12) (nf := 59) (by first | rfl | assumption) ml216 rfl rfl rfl rfl ?_
  refine al0 c216_0 ?_
  refine r_ic c216_1 kI0 ?_
  refine w_pi p216_2 (by first | rfl | assumption) rfl ?_
  rw [pm_lt_eq] at h
  generalize pm_w I 127 14 0 = I1 at h ⊢
  refine al0 c216_5 ?_
  refine r_ic c216_6 kI0 ?_
  refine w_pi p216_7 (by first | rfl | assumption) rfl ?_
  rw [pm_lt_eq] at h
  generalize pm_w I1 127 15 0 = I2 at h ⊢
  refine al0 c216_10 ?_
  refine r_bi c216_11 kB60 ?_
  refine w_pi p216_13 (by first | rfl | assumption) rfl ?_
  rw [pm_lt_eq] at h
  generalize pm_w I2 127 16 60 = I3 at h ⊢
  refine al0 c216_16 ?_
  refine r_bi c216_17 kB8 ?_
  refine w_pi p216_19 (by first | rfl | assumption) rfl ?_
  rw [pm_lt_eq] at h
  generalize pm_w I3 127 17 8 = I4 at h ⊢
  cases h
  exact r_rv c216_22 rt216 rfl
def f218_3 (a1 : Nat) (n1 : Nat) (a2 : Nat) (n2 : Nat) : Nat → Int32 → Int32 → (Nat → Nat → Int32) → (Nat → Nat → Int64) → Option (Unit × (Nat → Nat → Int32) × (Nat → Nat → Int64))
  | 0, _, _, _, _ => none
  | fu + 1, y3, y4, I, J => (if y4.toInt < y3.toInt then pm_gd (pm_in y4 n1) (pm_gd (pm_in y4 n2) (pm_lt (pm_w I a2 (y4).toNatClampNeg (I a1 (y4).toNatClampNeg)) (fun I4 => f218_3 a1 n1 a2 n2 fu y3 (y4 + 1) I4 J))) else some ((), I, J))
def f218 (a1 : Nat) (n1 : Nat) (a2 : Nat) (n2 : Nat) (x3 : Int32) (I : Nat → Nat → Int32) (J : Nat → Nat → Int64) : Option (Unit × (Nat → Nat → Int32) × (Nat → Nat → Int64)) := f218_3 a1 n1 a2 n2 pm_FU x3 0 I J
theorem d218_3 {X : (Nat → Int32) × Nat} {d : Nat} {P : Nat → Nat → Value} {e r k r2 k2 : Nat} {a1 : Nat} {n1 : Nat} {a2 : Nat} {n2 : Nat} (hw : pm_W P r k r2 k2) (hy0 : pm_T0[a1]? = some (20, n1)) (hy1 : n1 < 2 ^ 31) (hy2 : pm_T0[a2]? = some (20, n2)) (hy3 : n2 < 2 ^ 31) : ∀ (fu : Nat) {y3 y4 : Int32} {I : Nat → Nat → Int32} {J : Nat → Nat → Int64} {q : Unit × (Nat → Nat → Int32) × (Nat → Nat → Int64)} {z0 : Value} (h : f218_3 a1 n1 a2 n2 fu y3 y4 I J = some q), pm_Fx X (d) 218 3 [z0, .ref a1, .ref a2, .int y3, .int y4] [] (I, J, P, pm_T0, e) (.inl none) (q.2.1, q.2.2, P, pm_T0, e) := by
  obtain ⟨hp, hw1, hw2, hw3, hw4, hw5, hw6, hw7, hw8, hw9, hw10, hw11⟩ := id hw
  have hwa := hw5.1
  have hwb := hw6.1
  have hwc := hw7.1
  have hwd := hw8.1
  intro fu
  induction fu with
  | zero => intro y3 y4 I J q z0 h; cases h
  | succ fu ih =>
    intro y3 y4 I J q z0 h
    rw [f218_3] at h
    refine il4 c218_3 ?_
    refine il3 c218_5 ?_
    refine r_icge (t := 23) c218_6 rfl (fun h1 => ?_) (fun h1 => ?_)
    · rw [if_neg (Int.not_lt.mpr h1)] at h
      cases h
      exact r_rv c218_23 rt218 rfl
    · rw [if_pos h1] at h
      refine al2 c218_9 ?_
      refine il4 c218_10 ?_
      refine al1 c218_12 ?_
      refine il4 c218_13 ?_
      obtain ⟨gd2, h⟩ := pm_gd_sp h
      refine w_ia c218_15 (by first | rfl | assumption) gd2 ?_
      obtain ⟨gd3, h⟩ := pm_gd_sp h
      refine w_ist c218_16 (by first | rfl | assumption) gd3 ?_
      rw [pm_lt_eq] at h
      generalize pm_w I a2 (y4).toNatClampNeg (I a1 (y4).toNatClampNeg) = I4 at h ⊢
      refine ii4 c218_17 kI1 rfl ?_
      refine r_go (t := 3) c218_20 rfl ?_
      exact ih h
theorem d218 {X : (Nat → Int32) × Nat} {d : Nat} {I : Nat → Nat → Int32} {J : Nat → Nat → Int64} {P : Nat → Nat → Value} {e r k r2 k2 : Nat} {a1 : Nat} {n1 : Nat} {a2 : Nat} {n2 : Nat} {x3 : Int32} {q : Unit × (Nat → Nat → Int32) × (Nat → Nat → Int64)} (hw : pm_W P r k r2 k2) (hy0 : pm_T0[a1]? = some (20, n1)) (hy1 : n1 < 2 ^ 31) (hy2 : pm_T0[a2]? = some (20, n2)) (hy3 : n2 < 2 ^ 31) (h : f218 a1 n1 a2 n2 x3 I J = some q) : pm_Fn X (d) 218 1 [.ref 127, .ref a1, .ref a2, .int x3] (I, J, P, pm_T0, e) (.inl none) (q.2.1, q.2.2, P, pm_T0, e) := by
  obtain ⟨hp, hw1, hw2, hw3, hw4, hw5, hw6, hw7, hw8, hw9, hw10, hw11⟩ := id hw
  have hwa := hw5.1
  have hwb := hw6.1
  have hwc := hw7.1
  have hwd := hw8.1
  unfold f218 at h
  refine fn_v rc218 (c := 12) (nf := 59) (by first | rfl | assumption) ml218 rfl rfl rfl rfl ?_
  refine r_ic c218_0 kI0 ?_
  refine is4 c218_1 rfl ?_
  exact d218_3 hw hy0 hy1 hy2 hy3 pm_FU h
def f217_L  : Nat → Nat → Int32 → (Nat → Nat → Int32) → (Nat → Nat → Int64) → Option (Unit × (Nat → Nat → Int32) × (Nat → Nat → Int64))
  | 0, _, _, _, _ => none
  | fu + 1, 0, y1, I, J => (if y1.toInt < (66 : Int32).toInt then pm_gd (pm_in y1 66) (pm_lt (pm_w I 143 (y1).toNatClampNeg 0) (fun I3 => f217_L fu 0 (y1 + 1) I3 J)) else f217_L fu 1 0 I J)
  | fu + 1, _ + 1, y1, I, J => (if y1.toInt < (8 : Int32).toInt then pm_gd (pm_in (8 + y1) 66) (pm_lt (pm_w I 143 (8 + y1).toNatClampNeg (-1)) (fun I8 => pm_gd (pm_in (48 + y1) 66) (pm_lt (pm_w I8 143 (48 + y1).toNatClampNeg (-1)) (fun I10 => (if y1.toInt < (I10 127 18).toInt then pm_gd (pm_in ((4 * y1) + 3) 32) (pm_gd (pm_in (56 + y1) 66) (pm_lt (pm_w I10 143 (56 + y1).toNatClampNeg (I10 132 ((4 * y1) + 3).toNatClampNeg)) (fun I16 => f217_L fu 1 (y1 + 1) I16 J))) else pm_gd (pm_in (56 + y1) 66) (pm_lt (pm_w I10 143 (56 + y1).toNatClampNeg 0) (fun I13 => f217_L fu 1 (y1 + 1) I13 J))))))) else pm_gd (pm_in 65 66) (pm_lt (pm_w I 143 (65 : Int32).toNatClampNeg (I 127 16)) (fun I6 => some ((), I6, J))))
def f217  (I : Nat → Nat → Int32) (J : Nat → Nat → Int64) : Option (Unit × (Nat → Nat → Int32) × (Nat → Nat → Int64)) := pm_lt (pm_w I 127 18 (I 127 14)) (fun I1 => pm_lt (pm_w I1 127 19 (I1 127 15)) (fun I2 => pm_lt (pm_w I2 127 20 (I2 127 17)) (fun I3 => (f218 130 32 132 32 32 I3 J).bind (fun (ov4, I5, J6) => (f218 131 15 133 15 15 I5 J6).bind (fun (ov8, I9, J10) => pm_gd (pm_in 0 2) (pm_lt (pm_w I9 138 (0 : Int32).toNatClampNeg 0) (fun I13 => pm_gd (pm_in 1 2) (pm_lt (pm_w I13 138 (1 : Int32).toNatClampNeg 0) (fun I15 => pm_lt (pm_w I15 127 45 0) (fun I16 => pm_lt (pm_w I16 127 32 0) (fun I17 => pm_lt (pm_w I17 127 58 0) (fun I18 => pm_lt (pm_w I18 127 33 0) (fun I19 => f217_L pm_FU 0 0 I19 J10)))))))))))))
theorem d217_L {X : (Nat → Int32) × Nat} {d : Nat} {P : Nat → Nat → Value} {e r k r2 k2 : Nat}  (hw : pm_W P r k r2 k2)  : ∀ fu : Nat, (∀ {y1 : Int32} {I : Nat → Nat → Int32} {J : Nat → Nat → Int64} {q : Unit × (Nat → Nat → Int32) × (Nat → Nat → Int64)} (h : f217_L fu 0 y1 I J = some q), pm_Fx X (d + 1) 217 88 [.ref 127, .int y1] [] (I, J, P, pm_T0, e) (.inl none) (q.2.1, q.2.2, P, pm_T0, e)) ∧ (∀ {y1 : Int32} {I : Nat → Nat → Int32} {J : Nat → Nat → Int64} {q : Unit × (Nat → Nat → Int32) × (Nat → Nat → Int64)} (h : f217_L fu 1 y1 I J = some q), pm_Fx X (d + 1) 217 109 [.ref 127, .int y1] [] (I, J, P, pm_T0, e) (.inl none) (q.2.1, q.2.2, P, pm_T0, e)) := by
  obtain ⟨hp, hw1, hw2, hw3, hw4, hw5, hw6, hw7, hw8, hw9, hw10, hw11⟩ := id hw
  have hwa := hw5.1
  have hwb := hw6.1
  have hwc := hw7.1
  have hwd := hw8.1
  intro fu
  induction fu with
  | zero => exact ⟨(by intro y1 I J q h; cases h), (by intro y1 I J q h; cases h)⟩
  | succ fu ih =>
    refine ⟨?_, ?_⟩
    · intro y1 I J q h
      rw [f217_L] at h
      refine il1 c217_88 ?_
      refine r_bi c217_89 kB66 ?_
      refine r_icge (t := 107) c217_91 rfl (fun h1 => ?_) (fun h1 => ?_)
      · rw [if_neg (Int.not_lt.mpr h1)] at h
        refine r_ic c217_107 kI0 ?_
        refine is1 c217_108 rfl ?_
        exact ih.2 h
      · rw [if_pos h1] at h
        refine al0 c217_94 ?_
        refine r_gr g217_95 rfl rfl (hp _ _ _ rfl) ?_
        refine il1 c217_98 ?_
        refine r_ic c217_99 kI0 ?_
        obtain ⟨gd2, h⟩ := pm_gd_sp h
        refine w_ist c217_100 (by first | rfl | assumption) gd2 ?_
        rw [pm_lt_eq] at h
        generalize pm_w I 143 (y1).toNatClampNeg 0 = I3 at h ⊢
        refine ii1 c217_101 kI1 rfl ?_
        refine r_go (t := 88) c217_104 rfl ?_
        exact ih.1 h
    · intro y1 I J q h
      rw [f217_L] at h
      refine il1 c217_109 ?_
      refine r_bi c217_110 kB8 ?_
      refine r_icge (t := 172) c217_112 rfl (fun h4 => ?_) (fun h4 => ?_)
      · rw [if_neg (Int.not_lt.mpr h4)] at h
        refine al0 c217_172 ?_
        refine r_gr g217_173 rfl rfl (hp _ _ _ rfl) ?_
        refine r_bi c217_176 kB65 ?_
        refine al0 c217_178 ?_
        refine r_gi g217_179 (by first | rfl | assumption) rfl ?_
        obtain ⟨gd5, h⟩ := pm_gd_sp h
        refine w_ist c217_182 (by first | rfl | assumption) gd5 ?_
        rw [pm_lt_eq] at h
        generalize pm_w I 143 (65 : Int32).toNatClampNeg (I 127 16) = I6 at h ⊢
        cases h
        exact r_rv c217_183 rt217 rfl
      · rw [if_pos h4] at h
        refine al0 c217_115 ?_
        refine r_gr g217_116 rfl rfl (hp _ _ _ rfl) ?_
        refine r_bi c217_119 kB8 ?_
        refine il1 c217_121 ?_
        refine r_iadd c217_122 ?_
        refine r_ic c217_123 kIm1 ?_
        obtain ⟨gd7, h⟩ := pm_gd_sp h
        refine w_ist c217_124 (by first | rfl | assumption) gd7 ?_
        rw [pm_lt_eq] at h
        generalize pm_w I 143 (8 + y1).toNatClampNeg (-1) = I8 at h ⊢
        refine al0 c217_125 ?_
        refine r_gr g217_126 rfl rfl (hp _ _ _ rfl) ?_
        refine r_bi c217_129 kB48 ?_
        refine il1 c217_131 ?_
        refine r_iadd c217_132 ?_
        refine r_ic c217_133 kIm1 ?_
        obtain ⟨gd9, h⟩ := pm_gd_sp h
        refine w_ist c217_134 (by first | rfl | assumption) gd9 ?_
        rw [pm_lt_eq] at h
        generalize pm_w I8 143 (48 + y1).toNatClampNeg (-1) = I10 at h ⊢
        refine al0 c217_135 ?_
        refine r_gr g217_136 rfl rfl (hp _ _ _ rfl) ?_
        refine r_bi c217_139 kB56 ?_
        refine il1 c217_141 ?_
        refine r_iadd c217_142 ?_
        refine il1 c217_143 ?_
        refine al0 c217_144 ?_
        refine r_gi g217_145 (by first | rfl | assumption) rfl ?_
        refine r_icge (t := 164) c217_148 rfl (fun h11 => ?_) (fun h11 => ?_)
        · rw [if_neg (Int.not_lt.mpr h11)] at h
          refine r_ic c217_164 kI0 ?_
          obtain ⟨gd12, h⟩ := pm_gd_sp h
          refine w_ist c217_165 (by first | rfl | assumption) gd12 ?_
          rw [pm_lt_eq] at h
          generalize pm_w I10 143 (56 + y1).toNatClampNeg 0 = I13 at h ⊢
          refine ii1 c217_166 kI1 rfl ?_
          refine r_go (t := 109) c217_169 rfl ?_
          exact ih.2 h
        · rw [if_pos h11] at h
          refine al0 c217_151 ?_
          refine r_gr g217_152 rfl rfl (hp _ _ _ rfl) ?_
          refine r_ic c217_155 kI4 ?_
          refine il1 c217_156 ?_
          refine r_imul c217_157 ?_
          refine r_ic c217_158 kI3 ?_
          refine r_iadd c217_159 ?_
          obtain ⟨gd14, h⟩ := pm_gd_sp h
          refine w_ia c217_160 (by first | rfl | assumption) gd14 ?_
          refine r_go (t := 165) c217_161 rfl ?_
          obtain ⟨gd15, h⟩ := pm_gd_sp h
          refine w_ist c217_165 (by first | rfl | assumption) gd15 ?_
          rw [pm_lt_eq] at h
          generalize pm_w I10 143 (56 + y1).toNatClampNeg (I10 132 ((4 * y1) + 3).toNatClampNeg) = I16 at h ⊢
          refine ii1 c217_166 kI1 rfl ?_
          refine r_go (t := 109) c217_169 rfl ?_
          exact ih.2 h
theorem d217 {X : (Nat → Int32) × Nat} {d : Nat} {I : Nat → Nat → Int32} {J : Nat → Nat → Int64} {P : Nat → Nat → Value} {e r k r2 k2 : Nat}  {q : Unit × (Nat → Nat → Int32) × (Nat → Nat → Int64)} (hw : pm_W P r k r2 k2)  (h : f217  I J = some q) : pm_Fn X (d + 1) 217 1 [.ref 127] (I, J, P, pm_T0, e) (.inl none) (q.2.1, q.2.2, P, pm_T0, e) := by
  obtain ⟨hp, hw1, hw2, hw3, hw4, hw5, hw6, hw7, hw8, hw9, hw10, hw11⟩ := id hw
  have hwa := hw5.1
  have hwb := hw6.1
  have hwc := hw7.1
  have hwd := hw8.1
  unfold f217 at h
  refine fn_v rc217 (c := 12) (nf := 59) (by first | rfl | assumption) ml217 rfl rfl rfl rfl ?_
  refine al0 c217_0 ?_
  refine al0 c217_1 ?_
  refine r_gi g217_2 (by first | rfl | assumption) rfl ?_
  refine w_pi p217_5 (by first | rfl | assumption) rfl ?_
  rw [pm_lt_eq] at h
  generalize pm_w I 127 18 (I 127 14) = I1 at h ⊢
  refine al0 c217_8 ?_
  refine al0 c217_9 ?_
  refine r_gi g217_10 (by first | rfl | assumption) rfl ?_
  refine w_pi p217_13 (by first | rfl | assumption) rfl ?_
  rw [pm_lt_eq] at h
  generalize pm_w I1 127 19 (I1 127 15) = I2 at h ⊢
  refine al0 c217_16 ?_
  refine al0 c217_17 ?_
  refine r_gi g217_18 (by first | rfl | assumption) rfl ?_
  refine w_pi p217_21 (by first | rfl | assumption) rfl ?_
  rw [pm_lt_eq] at h
  generalize pm_w I2 127 20 (I2 127 17) = I3 at h ⊢
  refine al0 c217_24 ?_
  refine al0 c217_25 ?_
  refine r_gr g217_26 rfl rfl (hp _ _ _ rfl) ?_
  refine al0 c217_29 ?_
  refine r_gr g217_30 rfl rfl (hp _ _ _ rfl) ?_
  refine r_bi c217_33 kB32 ?_
  obtain ⟨⟨ov4, I5, J6⟩, e7, h⟩ := pm_bd_sp h
  dsimp only at h
  refine cz4 q217_35 (μ1 := (I5, J6, P, pm_T0, e)) (d218 hw (by first | rfl | assumption | decide) (by first | rfl | assumption | decide) (by first | rfl | assumption | decide) (by first | rfl | assumption | decide) e7) rfl ?_
  refine al0 c217_38 ?_
  refine al0 c217_39 ?_
  refine r_gr g217_40 rfl rfl (hp _ _ _ rfl) ?_
  refine al0 c217_43 ?_
  refine r_gr g217_44 rfl rfl (hp _ _ _ rfl) ?_
  refine r_bi c217_47 kB15 ?_
  obtain ⟨⟨ov8, I9, J10⟩, e11, h⟩ := pm_bd_sp h
  dsimp only at h
  refine cz4 q217_49 (μ1 := (I9, J10, P, pm_T0, e)) (d218 hw (by first | rfl | assumption | decide) (by first | rfl | assumption | decide) (by first | rfl | assumption | decide) (by first | rfl | assumption | decide) e11) rfl ?_
  refine al0 c217_52 ?_
  refine r_gr g217_53 rfl rfl (hp _ _ _ rfl) ?_
  refine r_ic c217_56 kI0 ?_
  refine r_ic c217_57 kI0 ?_
  obtain ⟨gd12, h⟩ := pm_gd_sp h
  refine w_ist c217_58 (by first | rfl | assumption) gd12 ?_
  rw [pm_lt_eq] at h
  generalize pm_w I9 138 (0 : Int32).toNatClampNeg 0 = I13 at h ⊢
  refine al0 c217_59 ?_
  refine r_gr g217_60 rfl rfl (hp _ _ _ rfl) ?_
  refine r_ic c217_63 kI1 ?_
  refine r_ic c217_64 kI0 ?_
  obtain ⟨gd14, h⟩ := pm_gd_sp h
  refine w_ist c217_65 (by first | rfl | assumption) gd14 ?_
  rw [pm_lt_eq] at h
  generalize pm_w I13 138 (1 : Int32).toNatClampNeg 0 = I15 at h ⊢
  refine al0 c217_66 ?_
  refine r_ic c217_67 kI0 ?_
  refine w_pi p217_68 (by first | rfl | assumption) rfl ?_
  rw [pm_lt_eq] at h
  generalize pm_w I15 127 45 0 = I16 at h ⊢
  refine al0 c217_71 ?_
  refine r_ic c217_72 kI0 ?_
  refine w_pi p217_73 (by first | rfl | assumption) rfl ?_
  rw [pm_lt_eq] at h
  generalize pm_w I16 127 32 0 = I17 at h ⊢
  refine al0 c217_76 ?_
  refine r_ic c217_77 kI0 ?_
  refine w_pi p217_78 (by first | rfl | assumption) rfl ?_
  rw [pm_lt_eq] at h
  generalize pm_w I17 127 58 0 = I18 at h ⊢
  refine al0 c217_81 ?_
  refine r_ic c217_82 kI0 ?_
  refine w_pi p217_83 (by first | rfl | assumption) rfl ?_
  rw [pm_lt_eq] at h
  generalize pm_w I18 127 33 0 = I19 at h ⊢
  refine r_ic c217_86 kI0 ?_
  refine is1 c217_87 rfl ?_
  exact (d217_L hw pm_FU).1 h
def f219_23  : Nat → Int32 → Int32 → Int32 → Int32 → Int32 → Int32 → (Nat → Nat → Int32) → (Nat → Nat → Int64) → Option (Int32 × (Nat → Nat → Int32) × (Nat → Nat → Int64))
  | 0, _, _, _, _, _, _, _, _ => none
  | fu + 1, y1, y2, y3, y4, y5, y6, I, J => (if y6.toInt < (20 : Int32).toInt then (if y6.toInt < (4 : Int32).toInt then pm_gd (pm_in (I 127 2) 600) (pm_lt (pm_w I 129 (I 127 2).toNatClampNeg ((y1 >>> ((24 - (8 * (y6 - y6 / 4 * 4))) &&& 31)) &&& 255)) (fun I19 => pm_lt (pm_w I19 127 2 ((I19 127 2) + 1)) (fun I20 => f219_23 fu y1 y2 y3 y4 y5 (y6 + 1) I20 J))) else (if y6.toInt < (8 : Int32).toInt then pm_gd (pm_in (I 127 2) 600) (pm_lt (pm_w I 129 (I 127 2).toNatClampNeg ((y2 >>> ((24 - (8 * (y6 - y6 / 4 * 4))) &&& 31)) &&& 255)) (fun I16 => pm_lt (pm_w I16 127 2 ((I16 127 2) + 1)) (fun I17 => f219_23 fu y1 y2 y3 y4 y5 (y6 + 1) I17 J))) else (if y6.toInt < (12 : Int32).toInt then pm_gd (pm_in (I 127 2) 600) (pm_lt (pm_w I 129 (I 127 2).toNatClampNeg ((y3 >>> ((24 - (8 * (y6 - y6 / 4 * 4))) &&& 31)) &&& 255)) (fun I13 => pm_lt (pm_w I13 127 2 ((I13 127 2) + 1)) (fun I14 => f219_23 fu y1 y2 y3 y4 y5 (y6 + 1) I14 J))) else (if y6.toInt < (16 : Int32).toInt then pm_gd (pm_in (I 127 2) 600) (pm_lt (pm_w I 129 (I 127 2).toNatClampNeg ((y4 >>> ((24 - (8 * (y6 - y6 / 4 * 4))) &&& 31)) &&& 255)) (fun I10 => pm_lt (pm_w I10 127 2 ((I10 127 2) + 1)) (fun I11 => f219_23 fu y1 y2 y3 y4 y5 (y6 + 1) I11 J))) else pm_gd (pm_in (I 127 2) 600) (pm_lt (pm_w I 129 (I 127 2).toNatClampNeg ((y5 >>> ((24 - (8 * (y6 - y6 / 4 * 4))) &&& 31)) &&& 255)) (fun I7 => pm_lt (pm_w I7 127 2 ((I7 127 2) + 1)) (fun I8 => f219_23 fu y1 y2 y3 y4 y5 (y6 + 1) I8 J))))))) else some (I 127 2, I, J))
def f219 (x1 : Int32) (x2 : Int32) (x3 : Int32) (x4 : Int32) (x5 : Int32) (I : Nat → Nat → Int32) (J : Nat → Nat → Int64) : Option (Int32 × (Nat → Nat → Int32) × (Nat → Nat → Int64)) := pm_lt (pm_w I 127 0 0) (fun I1 => (if (600 : Int32).toInt < ((I1 127 2) + 20).toInt then some ((-1), I1, J) else f219_23 pm_FU x1 x2 x3 x4 x5 0 I1 J))
theorem d219_23 {X : (Nat → Int32) × Nat} {d : Nat} {P : Nat → Nat → Value} {e r k r2 k2 : Nat}  (hw : pm_W P r k r2 k2)  : ∀ (fu : Nat) {y1 y2 y3 y4 y5 y6 : Int32} {I : Nat → Nat → Int32} {J : Nat → Nat → Int64} {q : Int32 × (Nat → Nat → Int32) × (Nat → Nat → Int64)} {z7 : Value} (h : f219_23 fu y1 y2 y3 y4 y5 y6 I J = some q), pm_Fx X (d) 219 23 [.ref 127, .int y1, .int y2, .int y3, .int y4, .int y5, .int y6, z7] [] (I, J, P, pm_T0, e) (.inl (some (.int q.1))) (q.2.1, q.2.2, P, pm_T0, e) := by
  obtain ⟨hp, hw1, hw2, hw3, hw4, hw5, hw6, hw7, hw8, hw9, hw10, hw11⟩ := id hw
  have hwa := hw5.1
  have hwb := hw6.1
  have hwc := hw7.1
  have hwd := hw8.1
  intro fu
  induction fu with
  | zero => intro y1 y2 y3 y4 y5 y6 I J q z7 h; cases h
  | succ fu ih =>
    intro y1 y2 y3 y4 y5 y6 I J q z7 h
    rw [f219_23] at h
    refine il6 c219_23 ?_
    refine r_bi c219_25 kB20 ?_
    refine r_icge (t := 120) c219_27 rfl (fun h1 => ?_) (fun h1 => ?_)
    · rw [if_neg (Int.not_lt.mpr h1)] at h
      refine al0 c219_120 ?_
      refine r_gi g219_121 (by first | rfl | assumption) rfl ?_
      cases h
      exact r_ri c219_124 rt219 rfl rfl
    · rw [if_pos h1] at h
      refine il6 c219_30 ?_
      refine r_ic c219_32 kI4 ?_
      refine r_icge (t := 40) c219_33 rfl (fun h2 => ?_) (fun h2 => ?_)
      · rw [if_neg (Int.not_lt.mpr h2)] at h
        refine il6 c219_40 ?_
        refine r_bi c219_42 kB8 ?_
        refine r_icge (t := 51) c219_44 rfl (fun h3 => ?_) (fun h3 => ?_)
        · rw [if_neg (Int.not_lt.mpr h3)] at h
          refine il6 c219_51 ?_
          refine r_bi c219_53 kB12 ?_
          refine r_icge (t := 62) c219_55 rfl (fun h4 => ?_) (fun h4 => ?_)
          · rw [if_neg (Int.not_lt.mpr h4)] at h
            refine il6 c219_62 ?_
            refine r_bi c219_64 kB16 ?_
            refine r_icge (t := 74) c219_66 rfl (fun h5 => ?_) (fun h5 => ?_)
            · rw [if_neg (Int.not_lt.mpr h5)] at h
              refine il5 c219_74 ?_
              refine is7 c219_76 rfl ?_
              refine al0 c219_78 ?_
              refine r_gr g219_79 rfl rfl (hp _ _ _ rfl) ?_
              refine al0 c219_82 ?_
              refine r_gi g219_83 (by first | rfl | assumption) rfl ?_
              refine il7 c219_86 ?_
              refine r_bi c219_88 kB24 ?_
              refine r_bi c219_90 kB8 ?_
              refine il6 c219_92 ?_
              refine r_ic c219_94 kI4 ?_
              refine r_irem c219_95 (by decide) ?_
              refine r_imul c219_96 ?_
              refine r_isub c219_97 ?_
              refine r_ishr c219_98 ?_
              refine r_si c219_99 kS255 ?_
              refine r_iand c219_102 ?_
              obtain ⟨gd6, h⟩ := pm_gd_sp h
              refine w_ist c219_103 (by first | rfl | assumption) gd6 ?_
              rw [pm_lt_eq] at h
              generalize pm_w I 129 (I 127 2).toNatClampNeg ((y5 >>> ((24 - (8 * (y6 - y6 / 4 * 4))) &&& 31)) &&& 255) = I7 at h ⊢
              refine al0 c219_104 ?_
              refine r_dpr c219_105 ?_
              refine r_gi g219_106 (by first | rfl | assumption) rfl ?_
              refine r_ic c219_109 kI1 ?_
              refine r_iadd c219_110 ?_
              refine w_pi p219_111 (by first | rfl | assumption) rfl ?_
              rw [pm_lt_eq] at h
              generalize pm_w I7 127 2 ((I7 127 2) + 1) = I8 at h ⊢
              refine ii6 c219_114 kI1 rfl ?_
              refine r_go (t := 23) c219_117 rfl ?_
              exact ih h
            · rw [if_pos h5] at h
              refine il4 c219_69 ?_
              refine r_go (t := 76) c219_71 rfl ?_
              refine is7 c219_76 rfl ?_
              refine al0 c219_78 ?_
              refine r_gr g219_79 rfl rfl (hp _ _ _ rfl) ?_
              refine al0 c219_82 ?_
              refine r_gi g219_83 (by first | rfl | assumption) rfl ?_
              refine il7 c219_86 ?_
              refine r_bi c219_88 kB24 ?_
              refine r_bi c219_90 kB8 ?_
              refine il6 c219_92 ?_
              refine r_ic c219_94 kI4 ?_
              refine r_irem c219_95 (by decide) ?_
              refine r_imul c219_96 ?_
              refine r_isub c219_97 ?_
              refine r_ishr c219_98 ?_
              refine r_si c219_99 kS255 ?_
              refine r_iand c219_102 ?_
              obtain ⟨gd9, h⟩ := pm_gd_sp h
              refine w_ist c219_103 (by first | rfl | assumption) gd9 ?_
              rw [pm_lt_eq] at h
              generalize pm_w I 129 (I 127 2).toNatClampNeg ((y4 >>> ((24 - (8 * (y6 - y6 / 4 * 4))) &&& 31)) &&& 255) = I10 at h ⊢
              refine al0 c219_104 ?_
              refine r_dpr c219_105 ?_
              refine r_gi g219_106 (by first | rfl | assumption) rfl ?_
              refine r_ic c219_109 kI1 ?_
              refine r_iadd c219_110 ?_
              refine w_pi p219_111 (by first | rfl | assumption) rfl ?_
              rw [pm_lt_eq] at h
              generalize pm_w I10 127 2 ((I10 127 2) + 1) = I11 at h ⊢
              refine ii6 c219_114 kI1 rfl ?_
              refine r_go (t := 23) c219_117 rfl ?_
              exact ih h
          · rw [if_pos h4] at h
            refine il3 c219_58 ?_
            refine r_go (t := 76) c219_59 rfl ?_
            refine is7 c219_76 rfl ?_
            refine al0 c219_78 ?_
            refine r_gr g219_79 rfl rfl (hp _ _ _ rfl) ?_
            refine al0 c219_82 ?_
            refine r_gi g219_83 (by first | rfl | assumption) rfl ?_
            refine il7 c219_86 ?_
            refine r_bi c219_88 kB24 ?_
            refine r_bi c219_90 kB8 ?_
            refine il6 c219_92 ?_
            refine r_ic c219_94 kI4 ?_
            refine r_irem c219_95 (by decide) ?_
            refine r_imul c219_96 ?_
            refine r_isub c219_97 ?_
            refine r_ishr c219_98 ?_
            refine r_si c219_99 kS255 ?_
            refine r_iand c219_102 ?_
            obtain ⟨gd12, h⟩ := pm_gd_sp h
            refine w_ist c219_103 (by first | rfl | assumption) gd12 ?_
            rw [pm_lt_eq] at h
            generalize pm_w I 129 (I 127 2).toNatClampNeg ((y3 >>> ((24 - (8 * (y6 - y6 / 4 * 4))) &&& 31)) &&& 255) = I13 at h ⊢
            refine al0 c219_104 ?_
            refine r_dpr c219_105 ?_
            refine r_gi g219_106 (by first | rfl | assumption) rfl ?_
            refine r_ic c219_109 kI1 ?_
            refine r_iadd c219_110 ?_
            refine w_pi p219_111 (by first | rfl | assumption) rfl ?_
            rw [pm_lt_eq] at h
            generalize pm_w I13 127 2 ((I13 127 2) + 1) = I14 at h ⊢
            refine ii6 c219_114 kI1 rfl ?_
            refine r_go (t := 23) c219_117 rfl ?_
            exact ih h
        · rw [if_pos h3] at h
          refine il2 c219_47 ?_
          refine r_go (t := 76) c219_48 rfl ?_
          refine is7 c219_76 rfl ?_
          refine al0 c219_78 ?_
          refine r_gr g219_79 rfl rfl (hp _ _ _ rfl) ?_
          refine al0 c219_82 ?_
          refine r_gi g219_83 (by first | rfl | assumption) rfl ?_
          refine il7 c219_86 ?_
          refine r_bi c219_88 kB24 ?_
          refine r_bi c219_90 kB8 ?_
          refine il6 c219_92 ?_
          refine r_ic c219_94 kI4 ?_
          refine r_irem c219_95 (by decide) ?_
          refine r_imul c219_96 ?_
          refine r_isub c219_97 ?_
          refine r_ishr c219_98 ?_
          refine r_si c219_99 kS255 ?_
          refine r_iand c219_102 ?_
          obtain ⟨gd15, h⟩ := pm_gd_sp h
          refine w_ist c219_103 (by first | rfl | assumption) gd15 ?_
          rw [pm_lt_eq] at h
          generalize pm_w I 129 (I 127 2).toNatClampNeg ((y2 >>> ((24 - (8 * (y6 - y6 / 4 * 4))) &&& 31)) &&& 255) = I16 at h ⊢
          refine al0 c219_104 ?_
          refine r_dpr c219_105 ?_
          refine r_gi g219_106 (by first | rfl | assumption) rfl ?_
          refine r_ic c219_109 kI1 ?_
          refine r_iadd c219_110 ?_
          refine w_pi p219_111 (by first | rfl | assumption) rfl ?_
          rw [pm_lt_eq] at h
          generalize pm_w I16 127 2 ((I16 127 2) + 1) = I17 at h ⊢
          refine ii6 c219_114 kI1 rfl ?_
          refine r_go (t := 23) c219_117 rfl ?_
          exact ih h
      · rw [if_pos h2] at h
        refine il1 c219_36 ?_
        refine r_go (t := 76) c219_37 rfl ?_
        refine is7 c219_76 rfl ?_
        refine al0 c219_78 ?_
        refine r_gr g219_79 rfl rfl (hp _ _ _ rfl) ?_
        refine al0 c219_82 ?_
        refine r_gi g219_83 (by first | rfl | assumption) rfl ?_
        refine il7 c219_86 ?_
        refine r_bi c219_88 kB24 ?_
        refine r_bi c219_90 kB8 ?_
        refine il6 c219_92 ?_
        refine r_ic c219_94 kI4 ?_
        refine r_irem c219_95 (by decide) ?_
        refine r_imul c219_96 ?_
        refine r_isub c219_97 ?_
        refine r_ishr c219_98 ?_
        refine r_si c219_99 kS255 ?_
        refine r_iand c219_102 ?_
        obtain ⟨gd18, h⟩ := pm_gd_sp h
        refine w_ist c219_103 (by first | rfl | assumption) gd18 ?_
        rw [pm_lt_eq] at h
        generalize pm_w I 129 (I 127 2).toNatClampNeg ((y1 >>> ((24 - (8 * (y6 - y6 / 4 * 4))) &&& 31)) &&& 255) = I19 at h ⊢
        refine al0 c219_104 ?_
        refine r_dpr c219_105 ?_
        refine r_gi g219_106 (by first | rfl | assumption) rfl ?_
        refine r_ic c219_109 kI1 ?_
        refine r_iadd c219_110 ?_
        refine w_pi p219_111 (by first | rfl | assumption) rfl ?_
        rw [pm_lt_eq] at h
        generalize pm_w I19 127 2 ((I19 127 2) + 1) = I20 at h ⊢
        refine ii6 c219_114 kI1 rfl ?_
        refine r_go (t := 23) c219_117 rfl ?_
        exact ih h
theorem d219 {X : (Nat → Int32) × Nat} {d : Nat} {I : Nat → Nat → Int32} {J : Nat → Nat → Int64} {P : Nat → Nat → Value} {e r k r2 k2 : Nat} {x1 : Int32} {x2 : Int32} {x3 : Int32} {x4 : Int32} {x5 : Int32} {q : Int32 × (Nat → Nat → Int32) × (Nat → Nat → Int64)} (hw : pm_W P r k r2 k2)  (h : f219 x1 x2 x3 x4 x5 I J = some q) : pm_Fn X (d) 219 1 [.ref 127, .int x1, .int x2, .int x3, .int x4, .int x5] (I, J, P, pm_T0, e) (.inl (some (.int q.1))) (q.2.1, q.2.2, P, pm_T0, e) := by
  obtain ⟨hp, hw1, hw2, hw3, hw4, hw5, hw6, hw7, hw8, hw9, hw10, hw11⟩ := id hw
  have hwa := hw5.1
  have hwb := hw6.1
  have hwc := hw7.1
  have hwd := hw8.1
  unfold f219 at h
  refine fn_v rc219 (c := 12) (nf := 59) (by first | rfl | assumption) ml219 rfl rfl rfl rfl ?_
  refine al0 c219_0 ?_
  refine r_ic c219_1 kI0 ?_
  refine w_pi p219_2 (by first | rfl | assumption) rfl ?_
  rw [pm_lt_eq] at h
  generalize pm_w I 127 0 0 = I1 at h ⊢
  refine al0 c219_5 ?_
  refine r_gi g219_6 (by first | rfl | assumption) rfl ?_
  refine r_bi c219_9 kB20 ?_
  refine r_iadd c219_11 ?_
  refine r_si c219_12 kS600 ?_
  refine r_icle (t := 20) c219_15 rfl (fun h2 => ?_) (fun h2 => ?_)
  · rw [if_neg (Int.not_lt.mpr h2)] at h
    refine r_ic c219_20 kI0 ?_
    refine is6 c219_21 rfl ?_
    exact d219_23 hw pm_FU h
  · rw [if_pos h2] at h
    refine r_ic c219_18 kIm1 ?_
    cases h
    exact r_ri c219_19 rt219 rfl rfl
def f220  (I : Nat → Nat → Int32) (J : Nat → Nat → Int64) : Option (Int32 × (Nat → Nat → Int32) × (Nat → Nat → Int64)) := pm_lt (pm_w I 127 0 0) (fun I1 => some (I1 127 8, I1, J))
theorem d220 {X : (Nat → Int32) × Nat} {d : Nat} {I : Nat → Nat → Int32} {J : Nat → Nat → Int64} {P : Nat → Nat → Value} {e r k r2 k2 : Nat}  {q : Int32 × (Nat → Nat → Int32) × (Nat → Nat → Int64)} (hw : pm_W P r k r2 k2)  (h : f220  I J = some q) : pm_Fn X (d) 220 1 [.ref 127] (I, J, P, pm_T0, e) (.inl (some (.int q.1))) (q.2.1, q.2.2, P, pm_T0, e) := by
  obtain ⟨hp, hw1, hw2, hw3, hw4, hw5, hw6, hw7, hw8, hw9, hw10, hw11⟩ := id hw
  have hwa := hw5.1
  have hwb := hw6.1
  have hwc := hw7.1
  have hwd := hw8.1
  unfold f220 at h
  refine fn_v rc220 (c := 12) (nf := 59) (by first | rfl | assumption) ml220 rfl rfl rfl rfl ?_
  refine al0 c220_0 ?_
  refine r_ic c220_1 kI0 ?_
  refine w_pi p220_2 (by first | rfl | assumption) rfl ?_
  rw [pm_lt_eq] at h
  generalize pm_w I 127 0 0 = I1 at h ⊢
  refine al0 c220_5 ?_
  refine r_gi g220_6 (by first | rfl | assumption) rfl ?_
  cases h
  exact r_ri c220_9 rt220 rfl rfl
def f222 (x1 : Int32) (x2 : Int32) (x3 : Int32) (I : Nat → Nat → Int32) (J : Nat → Nat → Int64) : Option (Bool × (Nat → Nat → Int32) × (Nat → Nat → Int64)) := (if x1 = 0 then (if (I 127 0) = 0 then pm_lt (pm_w I 127 0 x2) (fun I5 => pm_gd (pm_in x3 2) (pm_gd (pm_in x3 2) (pm_lt (pm_w I5 128 (x3).toNatClampNeg ((I5 128 (x3).toNatClampNeg) + 1)) (fun I8 => (if (I8 127 0) = 0 then some (true, I8, J) else some (false, I8, J)))))) else (if (I 127 0) = 0 then some (true, I, J) else some (false, I, J))) else (if (I 127 0) = 0 then some (true, I, J) else some (false, I, J)))
theorem d222 {X : (Nat → Int32) × Nat} {d : Nat} {I : Nat → Nat → Int32} {J : Nat → Nat → Int64} {P : Nat → Nat → Value} {e r k r2 k2 : Nat} {x1 : Int32} {x2 : Int32} {x3 : Int32} {q : Bool × (Nat → Nat → Int32) × (Nat → Nat → Int64)} (hw : pm_W P r k r2 k2)  (h : f222 x1 x2 x3 I J = some q) : pm_Fn X (d) 222 1 [.ref 127, .int x1, .int x2, .int x3] (I, J, P, pm_T0, e) (.inl (some (.int (pm_bi q.1)))) (q.2.1, q.2.2, P, pm_T0, e) := by
  obtain ⟨hp, hw1, hw2, hw3, hw4, hw5, hw6, hw7, hw8, hw9, hw10, hw11⟩ := id hw
  have hwa := hw5.1
  have hwb := hw6.1
  have hwc := hw7.1
  have hwd := hw8.1
  unfold f222 at h
  refine fn_v rc222 (c := 12) (nf := 59) (by first | rfl | assumption) ml222 rfl rfl rfl rfl ?_
  refine il1 c222_0 ?_
  refine r_ifne (t := 26) c222_1 rfl (fun h1 => ?_) (fun h1 => ?_)
  · rw [if_neg h1] at h
    refine al0 c222_26 ?_
    refine r_gi g222_27 (by first | rfl | assumption) rfl ?_
    refine r_ifne (t := 37) c222_30 rfl (fun h2 => ?_) (fun h2 => ?_)
    · rw [if_neg h2] at h
      refine r_ic c222_37 kI0 ?_
      cases h
      exact r_rz c222_38 rt222 (by decide) rfl rfl
    · rw [if_pos h2] at h
      refine r_ic c222_33 kI1 ?_
      refine r_go (t := 38) c222_34 rfl ?_
      cases h
      exact r_rz c222_38 rt222 (by decide) rfl rfl
  · rw [if_pos h1] at h
    refine al0 c222_4 ?_
    refine r_gi g222_5 (by first | rfl | assumption) rfl ?_
    refine r_ifne (t := 26) c222_8 rfl (fun h3 => ?_) (fun h3 => ?_)
    · rw [if_neg h3] at h
      refine al0 c222_26 ?_
      refine r_gi g222_27 (by first | rfl | assumption) rfl ?_
      refine r_ifne (t := 37) c222_30 rfl (fun h4 => ?_) (fun h4 => ?_)
      · rw [if_neg h4] at h
        refine r_ic c222_37 kI0 ?_
        cases h
        exact r_rz c222_38 rt222 (by decide) rfl rfl
      · rw [if_pos h4] at h
        refine r_ic c222_33 kI1 ?_
        refine r_go (t := 38) c222_34 rfl ?_
        cases h
        exact r_rz c222_38 rt222 (by decide) rfl rfl
    · rw [if_pos h3] at h
      refine al0 c222_11 ?_
      refine il2 c222_12 ?_
      refine w_pi p222_13 (by first | rfl | assumption) rfl ?_
      rw [pm_lt_eq] at h
      generalize pm_w I 127 0 x2 = I5 at h ⊢
      refine al0 c222_16 ?_
      refine r_gr g222_17 rfl rfl (hp _ _ _ rfl) ?_
      refine il3 c222_20 ?_
      refine r_dp2 c222_21 ?_
      obtain ⟨gd6, h⟩ := pm_gd_sp h
      refine w_ia c222_22 (by first | rfl | assumption) gd6 ?_
      refine r_ic c222_23 kI1 ?_
      refine r_iadd c222_24 ?_
      obtain ⟨gd7, h⟩ := pm_gd_sp h
      refine w_ist c222_25 (by first | rfl | assumption) gd7 ?_
      rw [pm_lt_eq] at h
      generalize pm_w I5 128 (x3).toNatClampNeg ((I5 128 (x3).toNatClampNeg) + 1) = I8 at h ⊢
      refine al0 c222_26 ?_
      refine r_gi g222_27 (by first | rfl | assumption) rfl ?_
      refine r_ifne (t := 37) c222_30 rfl (fun h9 => ?_) (fun h9 => ?_)
      · rw [if_neg h9] at h
        refine r_ic c222_37 kI0 ?_
        cases h
        exact r_rz c222_38 rt222 (by decide) rfl rfl
      · rw [if_pos h9] at h
        refine r_ic c222_33 kI1 ?_
        refine r_go (t := 38) c222_34 rfl ?_
        cases h
        exact r_rz c222_38 rt222 (by decide) rfl rfl
def f223 (x1 : Int32) (I : Nat → Nat → Int32) (J : Nat → Nat → Int64) : Option (Unit × (Nat → Nat → Int32) × (Nat → Nat → Int64)) := pm_lt (pm_w I 127 2 0) (fun I1 => pm_lt (pm_w I1 127 8 (-1)) (fun I2 => pm_lt (pm_w I2 127 3 x1) (fun I3 => pm_lt (pm_w I3 127 4 0) (fun I4 => pm_lt (pm_w I4 127 5 (-1)) (fun I5 => pm_lt (pm_w I5 127 7 0) (fun I6 => some ((), I6, J)))))))
theorem d223 {X : (Nat → Int32) × Nat} {d : Nat} {I : Nat → Nat → Int32} {J : Nat → Nat → Int64} {P : Nat → Nat → Value} {e r k r2 k2 : Nat} {x1 : Int32} {q : Unit × (Nat → Nat → Int32) × (Nat → Nat → Int64)} (hw : pm_W P r k r2 k2)  (h : f223 x1 I J = some q) : pm_Fn X (d) 223 1 [.ref 127, .int x1] (I, J, P, pm_T0, e) (.inl none) (q.2.1, q.2.2, P, pm_T0, e) := by
  obtain ⟨hp, hw1, hw2, hw3, hw4, hw5, hw6, hw7, hw8, hw9, hw10, hw11⟩ := id hw
  have hwa := hw5.1
  have hwb := hw6.1
  have hwc := hw7.1
  have hwd := hw8.1
  unfold f223 at h
  refine fn_v rc223 (c := 12) (nf := 59) (by first | rfl | assumption) ml223 rfl rfl rfl rfl ?_
  refine al0 c223_0 ?_
  refine r_ic c223_1 kI0 ?_
  refine w_pi p223_2 (by first | rfl | assumption) rfl ?_
  rw [pm_lt_eq] at h
  generalize pm_w I 127 2 0 = I1 at h ⊢
  refine al0 c223_5 ?_
  refine r_ic c223_6 kIm1 ?_
  refine w_pi p223_7 (by first | rfl | assumption) rfl ?_
  rw [pm_lt_eq] at h
  generalize pm_w I1 127 8 (-1) = I2 at h ⊢
  refine al0 c223_10 ?_
  refine il1 c223_11 ?_
  refine w_pi p223_12 (by first | rfl | assumption) rfl ?_
  rw [pm_lt_eq] at h
  generalize pm_w I2 127 3 x1 = I3 at h ⊢
  refine al0 c223_15 ?_
  refine r_ic c223_16 kI0 ?_
  refine w_pi p223_17 (by first | rfl | assumption) rfl ?_
  rw [pm_lt_eq] at h
  generalize pm_w I3 127 4 0 = I4 at h ⊢
  refine al0 c223_20 ?_
  refine r_ic c223_21 kIm1 ?_
  refine w_pi p223_22 (by first | rfl | assumption) rfl ?_
  rw [pm_lt_eq] at h
  generalize pm_w I4 127 5 (-1) = I5 at h ⊢
  refine al0 c223_25 ?_
  refine r_ic c223_26 kI0 ?_
  refine w_pi p223_27 (by first | rfl | assumption) rfl ?_
  rw [pm_lt_eq] at h
  generalize pm_w I5 127 7 0 = I6 at h ⊢
  cases h
  exact r_rv c223_30 rt223 rfl
def v224  (I : Nat → Nat → Int32) : Bool := (if (I 127 5) = (-1) then true else false)
theorem d224 {X : (Nat → Int32) × Nat} {d : Nat} {I : Nat → Nat → Int32} {J : Nat → Nat → Int64} {P : Nat → Nat → Value} {e r k r2 k2 : Nat}  {q : Bool} (hw : pm_W P r k r2 k2)  (h : v224  I = q) : pm_Fn X (d) 224 1 [.ref 127] (I, J, P, pm_T0, e) (.inl (some (.int (pm_bi q)))) (I, J, P, pm_T0, e) := by
  obtain ⟨hp, hw1, hw2, hw3, hw4, hw5, hw6, hw7, hw8, hw9, hw10, hw11⟩ := id hw
  have hwa := hw5.1
  have hwb := hw6.1
  have hwc := hw7.1
  have hwd := hw8.1
  unfold v224 at h
  refine fn_v rc224 (c := 12) (nf := 59) (by first | rfl | assumption) ml224 rfl rfl rfl rfl ?_
  refine al0 c224_0 ?_
  refine r_gi g224_1 (by first | rfl | assumption) rfl ?_
  refine r_ic c224_4 kIm1 ?_
  refine r_icne (t := 12) c224_5 rfl (fun h1 => ?_) (fun h1 => ?_)
  · rw [if_neg h1] at h
    refine r_ic c224_12 kI0 ?_
    cases h
    exact r_rz c224_13 rt224 (by decide) rfl rfl
  · rw [if_pos h1] at h
    refine r_ic c224_8 kI1 ?_
    refine r_go (t := 13) c224_9 rfl ?_
    cases h
    exact r_rz c224_13 rt224 (by decide) rfl rfl
def f226_0  : Nat → (Nat → Nat → Int32) → (Nat → Nat → Int64) → Option (Int32 × (Nat → Nat → Int32) × (Nat → Nat → Int64))
  | 0, _, _ => none
  | fu + 1, I, J => (if (I 127 4).toInt < (I 127 3).toInt then pm_gd (pm_in (I 127 4) 600) ((if (I 129 (I 127 4).toNatClampNeg) = 32 then pm_lt (pm_w I 127 4 ((I 127 4) + 1)) (fun I8 => f226_0 fu  I8 J) else (if (I 127 4).toInt < (I 127 3).toInt then pm_gd (pm_in (I 127 4) 600) (some (I 129 (I 127 4).toNatClampNeg, I, J)) else some (0, I, J)))) else (if (I 127 4).toInt < (I 127 3).toInt then pm_gd (pm_in (I 127 4) 600) (some (I 129 (I 127 4).toNatClampNeg, I, J)) else some (0, I, J)))
def f226  (I : Nat → Nat → Int32) (J : Nat → Nat → Int64) : Option (Int32 × (Nat → Nat → Int32) × (Nat → Nat → Int64)) := f226_0 pm_FU  I J
theorem d226_0 {X : (Nat → Int32) × Nat} {d : Nat} {P : Nat → Nat → Value} {e r k r2 k2 : Nat}  (hw : pm_W P r k r2 k2)  : ∀ (fu : Nat) {I : Nat → Nat → Int32} {J : Nat → Nat → Int64} {q : Int32 × (Nat → Nat → Int32) × (Nat → Nat → Int64)} (h : f226_0 fu I J = some q), pm_Fx X (d) 226 0 [.ref 127] [] (I, J, P, pm_T0, e) (.inl (some (.int q.1))) (q.2.1, q.2.2, P, pm_T0, e) := by
  obtain ⟨hp, hw1, hw2, hw3, hw4, hw5, hw6, hw7, hw8, hw9, hw10, hw11⟩ := id hw
  have hwa := hw5.1
  have hwb := hw6.1
  have hwc := hw7.1
  have hwd := hw8.1
  intro fu
  induction fu with
  | zero => intro I J q h; cases h
  | succ fu ih =>
    intro I J q h
    rw [f226_0] at h
    refine al0 c226_0 ?_
    refine r_gi g226_1 (by first | rfl | assumption) rfl ?_
    refine al0 c226_4 ?_
    refine r_gi g226_5 (by first | rfl | assumption) rfl ?_
    refine r_icge (t := 38) c226_8 rfl (fun h1 => ?_) (fun h1 => ?_)
    · rw [if_neg (Int.not_lt.mpr h1)] at h
      refine al0 c226_38 ?_
      refine r_gi g226_39 (by first | rfl | assumption) rfl ?_
      refine al0 c226_42 ?_
      refine r_gi g226_43 (by first | rfl | assumption) rfl ?_
      refine r_icge (t := 61) c226_46 rfl (fun h2 => ?_) (fun h2 => ?_)
      · rw [if_neg (Int.not_lt.mpr h2)] at h
        refine r_ic c226_61 kI0 ?_
        cases h
        exact r_ri c226_62 rt226 rfl rfl
      · rw [if_pos h2] at h
        refine al0 c226_49 ?_
        refine r_gr g226_50 rfl rfl (hp _ _ _ rfl) ?_
        refine al0 c226_53 ?_
        refine r_gi g226_54 (by first | rfl | assumption) rfl ?_
        obtain ⟨gd3, h⟩ := pm_gd_sp h
        refine w_ia c226_57 (by first | rfl | assumption) gd3 ?_
        refine r_go (t := 62) c226_58 rfl ?_
        cases h
        exact r_ri c226_62 rt226 rfl rfl
    · rw [if_pos h1] at h
      refine al0 c226_11 ?_
      refine r_gr g226_12 rfl rfl (hp _ _ _ rfl) ?_
      refine al0 c226_15 ?_
      refine r_gi g226_16 (by first | rfl | assumption) rfl ?_
      obtain ⟨gd4, h⟩ := pm_gd_sp h
      refine w_ia c226_19 (by first | rfl | assumption) gd4 ?_
      refine r_bi c226_20 kB32 ?_
      refine r_icne (t := 38) c226_22 rfl (fun h5 => ?_) (fun h5 => ?_)
      · rw [if_neg h5] at h
        refine al0 c226_38 ?_
        refine r_gi g226_39 (by first | rfl | assumption) rfl ?_
        refine al0 c226_42 ?_
        refine r_gi g226_43 (by first | rfl | assumption) rfl ?_
        refine r_icge (t := 61) c226_46 rfl (fun h6 => ?_) (fun h6 => ?_)
        · rw [if_neg (Int.not_lt.mpr h6)] at h
          refine r_ic c226_61 kI0 ?_
          cases h
          exact r_ri c226_62 rt226 rfl rfl
        · rw [if_pos h6] at h
          refine al0 c226_49 ?_
          refine r_gr g226_50 rfl rfl (hp _ _ _ rfl) ?_
          refine al0 c226_53 ?_
          refine r_gi g226_54 (by first | rfl | assumption) rfl ?_
          obtain ⟨gd7, h⟩ := pm_gd_sp h
          refine w_ia c226_57 (by first | rfl | assumption) gd7 ?_
          refine r_go (t := 62) c226_58 rfl ?_
          cases h
          exact r_ri c226_62 rt226 rfl rfl
      · rw [if_pos h5] at h
        refine al0 c226_25 ?_
        refine r_dpr c226_26 ?_
        refine r_gi g226_27 (by first | rfl | assumption) rfl ?_
        refine r_ic c226_30 kI1 ?_
        refine r_iadd c226_31 ?_
        refine w_pi p226_32 (by first | rfl | assumption) rfl ?_
        rw [pm_lt_eq] at h
        generalize pm_w I 127 4 ((I 127 4) + 1) = I8 at h ⊢
        refine r_go (t := 0) c226_35 rfl ?_
        exact ih h
theorem d226 {X : (Nat → Int32) × Nat} {d : Nat} {I : Nat → Nat → Int32} {J : Nat → Nat → Int64} {P : Nat → Nat → Value} {e r k r2 k2 : Nat}  {q : Int32 × (Nat → Nat → Int32) × (Nat → Nat → Int64)} (hw : pm_W P r k r2 k2)  (h : f226  I J = some q) : pm_Fn X (d) 226 1 [.ref 127] (I, J, P, pm_T0, e) (.inl (some (.int q.1))) (q.2.1, q.2.2, P, pm_T0, e) := by
  obtain ⟨hp, hw1, hw2, hw3, hw4, hw5, hw6, hw7, hw8, hw9, hw10, hw11⟩ := id hw
  have hwa := hw5.1
  have hwb := hw6.1
  have hwc := hw7.1
  have hwd := hw8.1
  unfold f226 at h
  refine fn_v rc226 (c := 12) (nf := 59) (by first | rfl | assumption) ml226 rfl rfl rfl rfl ?_
  exact d226_0 hw pm_FU h
def f225  (I : Nat → Nat → Int32) (J : Nat → Nat → Int64) : Option (Bool × (Nat → Nat → Int32) × (Nat → Nat → Int64)) := (f226  I J).bind (fun (ov1, I2, J3) => (if (I2 127 4).toInt < (I2 127 3).toInt then some (true, I2, J3) else some (false, I2, J3)))
theorem d225 {X : (Nat → Int32) × Nat} {d : Nat} {I : Nat → Nat → Int32} {J : Nat → Nat → Int64} {P : Nat → Nat → Value} {e r k r2 k2 : Nat}  {q : Bool × (Nat → Nat → Int32) × (Nat → Nat → Int64)} (hw : pm_W P r k r2 k2)  (h : f225  I J = some q) : pm_Fn X (d + 1) 225 1 [.ref 127] (I, J, P, pm_T0, e) (.inl (some (.int (pm_bi q.1)))) (q.2.1, q.2.2, P, pm_T0, e) := by
  obtain ⟨hp, hw1, hw2, hw3, hw4, hw5, hw6, hw7, hw8, hw9, hw10, hw11⟩ := id hw
  have hwa := hw5.1
  have hwb := hw6.1
  have hwc := hw7.1
  have hwd := hw8.1
  unfold f225 at h
  refine fn_v rc225 (c := 12) (nf := 59) (by first | rfl | assumption) ml225 rfl rfl rfl rfl ?_
  refine al0 c225_0 ?_
  obtain ⟨⟨ov1, I2, J3⟩, e4, h⟩ := pm_bd_sp h
  dsimp only at h
  refine cv1 q225_1 (v := .int ov1) (μ1 := (I2, J3, P, pm_T0, e)) (d226 hw e4) rfl ?_
  refine r_pp c225_4 ?_
  refine al0 c225_5 ?_
  refine r_gi g225_6 (by first | rfl | assumption) rfl ?_
  refine al0 c225_9 ?_
  refine r_gi g225_10 (by first | rfl | assumption) rfl ?_
  refine r_icge (t := 20) c225_13 rfl (fun h5 => ?_) (fun h5 => ?_)
  · rw [if_neg (Int.not_lt.mpr h5)] at h
    refine r_ic c225_20 kI0 ?_
    cases h
    exact r_rz c225_21 rt225 (by decide) rfl rfl
  · rw [if_pos h5] at h
    refine r_ic c225_16 kI1 ?_
    refine r_go (t := 21) c225_17 rfl ?_
    cases h
    exact r_rz c225_21 rt225 (by decide) rfl rfl
def v228 (x0 : Int32) (I : Nat → Nat → Int32) : Bool := (if x0.toInt < (97 : Int32).toInt then false else (if (122 : Int32).toInt < x0.toInt then false else true))
theorem d228 {X : (Nat → Int32) × Nat} {d : Nat} {I : Nat → Nat → Int32} {J : Nat → Nat → Int64} {P : Nat → Nat → Value} {e r k r2 k2 : Nat} {x0 : Int32} {q : Bool} (hw : pm_W P r k r2 k2)  (h : v228 x0 I = q) : pm_Fn X (d) 228 0 [.int x0] (I, J, P, pm_T0, e) (.inl (some (.int (pm_bi q)))) (I, J, P, pm_T0, e) := by
  obtain ⟨hp, hw1, hw2, hw3, hw4, hw5, hw6, hw7, hw8, hw9, hw10, hw11⟩ := id hw
  have hwa := hw5.1
  have hwb := hw6.1
  have hwc := hw7.1
  have hwd := hw8.1
  unfold v228 at h
  refine fn_s ml228 rfl rfl rfl ?_
  refine il0 c228_0 ?_
  refine r_bi c228_1 kB97 ?_
  refine r_iclt (t := 16) c228_3 rfl (fun h1 => ?_) (fun h1 => ?_)
  · rw [if_pos h1] at h
    refine r_ic c228_16 kI0 ?_
    cases h
    exact r_rz c228_17 rt228 (by decide) rfl rfl
  · rw [if_neg (Int.not_lt.mpr h1)] at h
    refine il0 c228_6 ?_
    refine r_bi c228_7 kB122 ?_
    refine r_icgt (t := 16) c228_9 rfl (fun h2 => ?_) (fun h2 => ?_)
    · rw [if_pos h2] at h
      refine r_ic c228_16 kI0 ?_
      cases h
      exact r_rz c228_17 rt228 (by decide) rfl rfl
    · rw [if_neg (Int.not_lt.mpr h2)] at h
      refine r_ic c228_12 kI1 ?_
      refine r_go (t := 17) c228_13 rfl ?_
      cases h
      exact r_rz c228_17 rt228 (by decide) rfl rfl
def f227_7 (s1 : Nat) : Nat → Int32 → (Nat → Nat → Int32) → (Nat → Nat → Int64) → Option (Bool × (Nat → Nat → Int32) × (Nat → Nat → Int64))
  | 0, _, _, _ => none
  | fu + 1, y2, I, J => (if y2.toInt < (nI (pm_tl (s1 + 2))).toInt then (if ((I 127 4) + y2).toInt < (I 127 3).toInt then pm_gd (pm_in ((I 127 4) + y2) 600) (pm_gd (pm_in y2 (pm_tl (s1 + 2))) ((if (I 129 ((I 127 4) + y2).toNatClampNeg) = (nI (pm_tc (s1 + 2) (y2).toNatClampNeg)) then f227_7 s1 fu (y2 + 1) I J else some (false, I, J)))) else some (false, I, J)) else (if ((I 127 4) + (nI (pm_tl (s1 + 2)))).toInt < (I 127 3).toInt then pm_gd (pm_in ((I 127 4) + (nI (pm_tl (s1 + 2)))) 600) ((if (v228 (I 129 ((I 127 4) + (nI (pm_tl (s1 + 2)))).toNatClampNeg) I) = true then some (false, I, J) else some (true, I, J))) else some (true, I, J)))
def f227 (s1 : Nat) (I : Nat → Nat → Int32) (J : Nat → Nat → Int64) : Option (Bool × (Nat → Nat → Int32) × (Nat → Nat → Int64)) := (f226  I J).bind (fun (ov1, I2, J3) => f227_7 s1 pm_FU 0 I2 J3)
theorem d227_7 {X : (Nat → Int32) × Nat} {d : Nat} {P : Nat → Nat → Value} {e r k r2 k2 : Nat} {s1 : Nat} (hw : pm_W P r k r2 k2) (hy0 : pm_okS (s1 + 2) = true) : ∀ (fu : Nat) {y2 : Int32} {I : Nat → Nat → Int32} {J : Nat → Nat → Int64} {q : Bool × (Nat → Nat → Int32) × (Nat → Nat → Int64)} (h : f227_7 s1 fu y2 I J = some q), pm_Fx X (d + 5) 227 7 [.ref 127, .retAddr (s1 + 2), .int y2] [] (I, J, P, pm_T0, e) (.inl (some (.int (pm_bi q.1)))) (q.2.1, q.2.2, P, pm_T0, e) := by
  obtain ⟨hp, hw1, hw2, hw3, hw4, hw5, hw6, hw7, hw8, hw9, hw10, hw11⟩ := id hw
  have hwa := hw5.1
  have hwb := hw6.1
  have hwc := hw7.1
  have hwd := hw8.1
  intro fu
  induction fu with
  | zero => intro y2 I J q h; cases h
  | succ fu ih =>
    intro y2 I J q h
    rw [f227_7] at h
    refine il2 c227_7 ?_
    refine at1 c227_8 ?_
    refine cv1 q227_9 (s366 (by first | rfl | assumption)) rfl ?_
    refine r_icge (t := 55) c227_12 rfl (fun h1 => ?_) (fun h1 => ?_)
    · rw [if_neg (Int.not_lt.mpr h1)] at h
      refine al0 c227_55 ?_
      refine r_gi g227_56 (by first | rfl | assumption) rfl ?_
      refine at1 c227_59 ?_
      refine cv1 q227_60 (s366 (by first | rfl | assumption)) rfl ?_
      refine r_iadd c227_63 ?_
      refine al0 c227_64 ?_
      refine r_gi g227_65 (by first | rfl | assumption) rfl ?_
      refine r_icge (t := 91) c227_68 rfl (fun h2 => ?_) (fun h2 => ?_)
      · rw [if_neg (Int.not_lt.mpr h2)] at h
        refine r_ic c227_91 kI1 ?_
        refine r_go (t := 96) c227_92 rfl ?_
        cases h
        exact r_rz c227_96 rt227 (by decide) rfl rfl
      · rw [if_pos h2] at h
        refine al0 c227_71 ?_
        refine r_gr g227_72 rfl rfl (hp _ _ _ rfl) ?_
        refine al0 c227_75 ?_
        refine r_gi g227_76 (by first | rfl | assumption) rfl ?_
        refine at1 c227_79 ?_
        refine cv1 q227_80 (s366 (by first | rfl | assumption)) rfl ?_
        refine r_iadd c227_83 ?_
        obtain ⟨gd3, h⟩ := pm_gd_sp h
        refine w_ia c227_84 (by first | rfl | assumption) gd3 ?_
        refine cv1 q227_85 (d228 hw rfl) rfl ?_
        refine r_ifne (t := 95) c227_88 rfl (fun h4 => ?_) (fun h4 => ?_)
        · rw [if_pos (pm_bt h4)] at h
          refine r_ic c227_95 kI0 ?_
          cases h
          exact r_rz c227_96 rt227 (by decide) rfl rfl
        · rw [if_neg (pm_bf h4)] at h
          refine r_ic c227_91 kI1 ?_
          refine r_go (t := 96) c227_92 rfl ?_
          cases h
          exact r_rz c227_96 rt227 (by decide) rfl rfl
    · rw [if_pos h1] at h
      refine al0 c227_15 ?_
      refine r_gi g227_16 (by first | rfl | assumption) rfl ?_
      refine il2 c227_19 ?_
      refine r_iadd c227_20 ?_
      refine al0 c227_21 ?_
      refine r_gi g227_22 (by first | rfl | assumption) rfl ?_
      refine r_icge (t := 47) c227_25 rfl (fun h5 => ?_) (fun h5 => ?_)
      · rw [if_neg (Int.not_lt.mpr h5)] at h
        refine r_ic c227_47 kI0 ?_
        cases h
        exact r_rz c227_48 rt227 (by decide) rfl rfl
      · rw [if_pos h5] at h
        refine al0 c227_28 ?_
        refine r_gr g227_29 rfl rfl (hp _ _ _ rfl) ?_
        refine al0 c227_32 ?_
        refine r_gi g227_33 (by first | rfl | assumption) rfl ?_
        refine il2 c227_36 ?_
        refine r_iadd c227_37 ?_
        obtain ⟨gd6, h⟩ := pm_gd_sp h
        refine w_ia c227_38 (by first | rfl | assumption) gd6 ?_
        refine at1 c227_39 ?_
        refine il2 c227_40 ?_
        obtain ⟨gd7, h⟩ := pm_gd_sp h
        refine cv2 q227_41 (s368 (by first | rfl | assumption) gd7) rfl ?_
        refine r_iceq (t := 49) c227_44 rfl (fun h8 => ?_) (fun h8 => ?_)
        · rw [if_pos h8] at h
          refine ii2 c227_49 kI1 rfl ?_
          refine r_go (t := 7) c227_52 rfl ?_
          exact ih h
        · rw [if_neg h8] at h
          refine r_ic c227_47 kI0 ?_
          cases h
          exact r_rz c227_48 rt227 (by decide) rfl rfl
theorem d227 {X : (Nat → Int32) × Nat} {d : Nat} {I : Nat → Nat → Int32} {J : Nat → Nat → Int64} {P : Nat → Nat → Value} {e r k r2 k2 : Nat} {s1 : Nat} {q : Bool × (Nat → Nat → Int32) × (Nat → Nat → Int64)} (hw : pm_W P r k r2 k2) (hy0 : pm_okS (s1 + 2) = true) (h : f227 s1 I J = some q) : pm_Fn X (d + 5) 227 1 [.ref 127, .retAddr (s1 + 2)] (I, J, P, pm_T0, e) (.inl (some (.int (pm_bi q.1)))) (q.2.1, q.2.2, P, pm_T0, e) := by
  obtain ⟨hp, hw1, hw2, hw3, hw4, hw5, hw6, hw7, hw8, hw9, hw10, hw11⟩ := id hw
  have hwa := hw5.1
  have hwb := hw6.1
  have hwc := hw7.1
  have hwd := hw8.1
  unfold f227 at h
  refine fn_v rc227 (c := 12) (nf := 59) (by first | rfl | assumption) ml227 rfl rfl rfl rfl ?_
  refine al0 c227_0 ?_
  obtain ⟨⟨ov1, I2, J3⟩, e4, h⟩ := pm_bd_sp h
  dsimp only at h
  refine cv1 q227_1 (v := .int ov1) (μ1 := (I2, J3, P, pm_T0, e)) (d226 hw e4) rfl ?_
  refine r_pp c227_4 ?_
  refine r_ic c227_5 kI0 ?_
  refine is2 c227_6 rfl ?_
  exact d227_7 hw hy0 pm_FU h
def f229_14  : Nat → Int32 → Int32 → Int32 → (Nat → Nat → Int32) → (Nat → Nat → Int64) → Option (Int32 × (Nat → Nat → Int32) × (Nat → Nat → Int64))
  | 0, _, _, _, _, _ => none
  | fu + 1, y1, y2, y3, I, J => (if y3.toInt < (I 127 3).toInt then pm_gd (pm_in y3 600) ((if (v228 (I 129 (y3).toNatClampNeg) I) = true then (if y2.toInt < (6 : Int32).toInt then pm_gd (pm_in y3 600) (f229_14 fu ((y1 <<< ((5 : Int32) &&& 31)) ||| ((I 129 (y3).toNatClampNeg) - 96)) (y2 + 1) (y3 + 1) I J) else f229_14 fu 0 (y2 + 1) (y3 + 1) I J) else (if (6 : Int32).toInt < y2.toInt then some (0, I, J) else some (y1, I, J)))) else (if (6 : Int32).toInt < y2.toInt then some (0, I, J) else some (y1, I, J)))
def f229  (I : Nat → Nat → Int32) (J : Nat → Nat → Int64) : Option (Int32 × (Nat → Nat → Int32) × (Nat → Nat → Int64)) := (f226  I J).bind (fun (ov1, I2, J3) => f229_14 pm_FU 0 0 (I2 127 4) I2 J3)
theorem d229_14 {X : (Nat → Int32) × Nat} {d : Nat} {P : Nat → Nat → Value} {e r k r2 k2 : Nat}  (hw : pm_W P r k r2 k2)  : ∀ (fu : Nat) {y1 y2 y3 : Int32} {I : Nat → Nat → Int32} {J : Nat → Nat → Int64} {q : Int32 × (Nat → Nat → Int32) × (Nat → Nat → Int64)} (h : f229_14 fu y1 y2 y3 I J = some q), pm_Fx X (d + 1) 229 14 [.ref 127, .int y1, .int y2, .int y3] [] (I, J, P, pm_T0, e) (.inl (some (.int q.1))) (q.2.1, q.2.2, P, pm_T0, e) := by
  obtain ⟨hp, hw1, hw2, hw3, hw4, hw5, hw6, hw7, hw8, hw9, hw10, hw11⟩ := id hw
  have hwa := hw5.1
  have hwb := hw6.1
  have hwc := hw7.1
  have hwd := hw8.1
  intro fu
  induction fu with
  | zero => intro y1 y2 y3 I J q h; cases h
  | succ fu ih =>
    intro y1 y2 y3 I J q h
    rw [f229_14] at h
    refine il3 c229_14 ?_
    refine al0 c229_15 ?_
    refine r_gi g229_16 (by first | rfl | assumption) rfl ?_
    refine r_icge (t := 67) c229_19 rfl (fun h1 => ?_) (fun h1 => ?_)
    · rw [if_neg (Int.not_lt.mpr h1)] at h
      refine il2 c229_67 ?_
      refine r_bi c229_68 kB6 ?_
      refine r_icle (t := 77) c229_70 rfl (fun h2 => ?_) (fun h2 => ?_)
      · rw [if_neg (Int.not_lt.mpr h2)] at h
        refine il1 c229_77 ?_
        cases h
        exact r_ri c229_78 rt229 rfl rfl
      · rw [if_pos h2] at h
        refine r_ic c229_73 kI0 ?_
        refine r_go (t := 78) c229_74 rfl ?_
        cases h
        exact r_ri c229_78 rt229 rfl rfl
    · rw [if_pos h1] at h
      refine al0 c229_22 ?_
      refine r_gr g229_23 rfl rfl (hp _ _ _ rfl) ?_
      refine il3 c229_26 ?_
      obtain ⟨gd3, h⟩ := pm_gd_sp h
      refine w_ia c229_27 (by first | rfl | assumption) gd3 ?_
      refine cv1 q229_28 (d228 hw rfl) rfl ?_
      refine r_ifeq (t := 67) c229_31 rfl (fun h4 => ?_) (fun h4 => ?_)
      · rw [if_neg (pm_bf h4)] at h
        refine il2 c229_67 ?_
        refine r_bi c229_68 kB6 ?_
        refine r_icle (t := 77) c229_70 rfl (fun h5 => ?_) (fun h5 => ?_)
        · rw [if_neg (Int.not_lt.mpr h5)] at h
          refine il1 c229_77 ?_
          cases h
          exact r_ri c229_78 rt229 rfl rfl
        · rw [if_pos h5] at h
          refine r_ic c229_73 kI0 ?_
          refine r_go (t := 78) c229_74 rfl ?_
          cases h
          exact r_ri c229_78 rt229 rfl rfl
      · rw [if_pos (pm_bt h4)] at h
        refine il2 c229_34 ?_
        refine r_bi c229_35 kB6 ?_
        refine r_icge (t := 56) c229_37 rfl (fun h6 => ?_) (fun h6 => ?_)
        · rw [if_neg (Int.not_lt.mpr h6)] at h
          refine r_ic c229_56 kI0 ?_
          refine is1 c229_57 rfl ?_
          refine ii2 c229_58 kI1 rfl ?_
          refine ii3 c229_61 kI1 rfl ?_
          refine r_go (t := 14) c229_64 rfl ?_
          exact ih h
        · rw [if_pos h6] at h
          refine il1 c229_40 ?_
          refine r_ic c229_41 kI5 ?_
          refine r_ishl c229_42 ?_
          refine al0 c229_43 ?_
          refine r_gr g229_44 rfl rfl (hp _ _ _ rfl) ?_
          refine il3 c229_47 ?_
          obtain ⟨gd7, h⟩ := pm_gd_sp h
          refine w_ia c229_48 (by first | rfl | assumption) gd7 ?_
          refine r_bi c229_49 kB96 ?_
          refine r_isub c229_51 ?_
          refine r_ior c229_52 ?_
          refine r_go (t := 57) c229_53 rfl ?_
          refine is1 c229_57 rfl ?_
          refine ii2 c229_58 kI1 rfl ?_
          refine ii3 c229_61 kI1 rfl ?_
          refine r_go (t := 14) c229_64 rfl ?_
          exact ih h
theorem d229 {X : (Nat → Int32) × Nat} {d : Nat} {I : Nat → Nat → Int32} {J : Nat → Nat → Int64} {P : Nat → Nat → Value} {e r k r2 k2 : Nat}  {q : Int32 × (Nat → Nat → Int32) × (Nat → Nat → Int64)} (hw : pm_W P r k r2 k2)  (h : f229  I J = some q) : pm_Fn X (d + 1) 229 1 [.ref 127] (I, J, P, pm_T0, e) (.inl (some (.int q.1))) (q.2.1, q.2.2, P, pm_T0, e) := by
  obtain ⟨hp, hw1, hw2, hw3, hw4, hw5, hw6, hw7, hw8, hw9, hw10, hw11⟩ := id hw
  have hwa := hw5.1
  have hwb := hw6.1
  have hwc := hw7.1
  have hwd := hw8.1
  unfold f229 at h
  refine fn_v rc229 (c := 12) (nf := 59) (by first | rfl | assumption) ml229 rfl rfl rfl rfl ?_
  refine al0 c229_0 ?_
  obtain ⟨⟨ov1, I2, J3⟩, e4, h⟩ := pm_bd_sp h
  dsimp only at h
  refine cv1 q229_1 (v := .int ov1) (μ1 := (I2, J3, P, pm_T0, e)) (d226 hw e4) rfl ?_
  refine r_pp c229_4 ?_
  refine r_ic c229_5 kI0 ?_
  refine is1 c229_6 rfl ?_
  refine r_ic c229_7 kI0 ?_
  refine is2 c229_8 rfl ?_
  refine al0 c229_9 ?_
  refine r_gi g229_10 (by first | rfl | assumption) rfl ?_
  refine is3 c229_13 rfl ?_
  exact d229_14 hw pm_FU h
def f231_4 (s0 : Nat) : Nat → Int32 → Int32 → (Nat → Nat → Int32) → (Nat → Nat → Int64) → Option (Int32 × (Nat → Nat → Int32) × (Nat → Nat → Int64))
  | 0, _, _, _, _ => none
  | fu + 1, y1, y2, I, J => (if y2.toInt < (nI (pm_tl (s0 + 2))).toInt then pm_gd (pm_in y2 (pm_tl (s0 + 2))) (pm_lt ((y1 <<< ((5 : Int32) &&& 31)) ||| ((nI (pm_tc (s0 + 2) (y2).toNatClampNeg)) - 96)) (fun u3 => f231_4 s0 fu u3 (y2 + 1) I J)) else some (y1, I, J))
def f231 (s0 : Nat) (I : Nat → Nat → Int32) (J : Nat → Nat → Int64) : Option (Int32 × (Nat → Nat → Int32) × (Nat → Nat → Int64)) := f231_4 s0 pm_FU 0 0 I J
theorem d231_4 {X : (Nat → Int32) × Nat} {d : Nat} {P : Nat → Nat → Value} {e r k r2 k2 : Nat} {s0 : Nat} (hw : pm_W P r k r2 k2) (hy0 : pm_okS (s0 + 2) = true) : ∀ (fu : Nat) {y1 y2 : Int32} {I : Nat → Nat → Int32} {J : Nat → Nat → Int64} {q : Int32 × (Nat → Nat → Int32) × (Nat → Nat → Int64)} (h : f231_4 s0 fu y1 y2 I J = some q), pm_Fx X (d + 5) 231 4 [.retAddr (s0 + 2), .int y1, .int y2] [] (I, J, P, pm_T0, e) (.inl (some (.int q.1))) (q.2.1, q.2.2, P, pm_T0, e) := by
  obtain ⟨hp, hw1, hw2, hw3, hw4, hw5, hw6, hw7, hw8, hw9, hw10, hw11⟩ := id hw
  have hwa := hw5.1
  have hwb := hw6.1
  have hwc := hw7.1
  have hwd := hw8.1
  intro fu
  induction fu with
  | zero => intro y1 y2 I J q h; cases h
  | succ fu ih =>
    intro y1 y2 I J q h
    rw [f231_4] at h
    refine il2 c231_4 ?_
    refine at0 c231_5 ?_
    refine cv1 q231_6 (s366 (by first | rfl | assumption)) rfl ?_
    refine r_icge (t := 31) c231_9 rfl (fun h1 => ?_) (fun h1 => ?_)
    · rw [if_neg (Int.not_lt.mpr h1)] at h
      refine il1 c231_31 ?_
      cases h
      exact r_ri c231_32 rt231 rfl rfl
    · rw [if_pos h1] at h
      refine il1 c231_12 ?_
      refine r_ic c231_13 kI5 ?_
      refine r_ishl c231_14 ?_
      refine at0 c231_15 ?_
      refine il2 c231_16 ?_
      obtain ⟨gd2, h⟩ := pm_gd_sp h
      refine cv2 q231_17 (s368 (by first | rfl | assumption) gd2) rfl ?_
      refine r_bi c231_20 kB96 ?_
      refine r_isub c231_22 ?_
      refine r_ior c231_23 ?_
      refine is1 c231_24 rfl ?_
      rw [pm_lt_eq] at h
      generalize (y1 <<< ((5 : Int32) &&& 31)) ||| ((nI (pm_tc (s0 + 2) (y2).toNatClampNeg)) - 96) = u3 at h ⊢
      refine ii2 c231_25 kI1 rfl ?_
      refine r_go (t := 4) c231_28 rfl ?_
      exact ih h
theorem d231 {X : (Nat → Int32) × Nat} {d : Nat} {I : Nat → Nat → Int32} {J : Nat → Nat → Int64} {P : Nat → Nat → Value} {e r k r2 k2 : Nat} {s0 : Nat} {q : Int32 × (Nat → Nat → Int32) × (Nat → Nat → Int64)} (hw : pm_W P r k r2 k2) (hy0 : pm_okS (s0 + 2) = true) (h : f231 s0 I J = some q) : pm_Fn X (d + 5) 231 0 [.retAddr (s0 + 2)] (I, J, P, pm_T0, e) (.inl (some (.int q.1))) (q.2.1, q.2.2, P, pm_T0, e) := by
  obtain ⟨hp, hw1, hw2, hw3, hw4, hw5, hw6, hw7, hw8, hw9, hw10, hw11⟩ := id hw
  have hwa := hw5.1
  have hwb := hw6.1
  have hwc := hw7.1
  have hwd := hw8.1
  unfold f231 at h
  refine fn_s ml231 rfl rfl rfl ?_
  refine r_ic c231_0 kI0 ?_
  refine is1 c231_1 rfl ?_
  refine r_ic c231_2 kI0 ?_
  refine is2 c231_3 rfl ?_
  exact d231_4 hw hy0 pm_FU h
def f230 (x0 : Int32) (I : Nat → Nat → Int32) (J : Nat → Nat → Int64) : Option (Bool × (Nat → Nat → Int32) × (Nat → Nat → Int64)) := (f231 2 I J).bind (fun (ov1, I2, J3) => (if x0 = ov1 then some (true, I2, J3) else (f231 4 I2 J3).bind (fun (ov6, I7, J8) => (if x0 = ov6 then some (true, I7, J8) else (f231 8 I7 J8).bind (fun (ov11, I12, J13) => (if x0 = ov11 then some (true, I12, J13) else (f231 10 I12 J13).bind (fun (ov16, I17, J18) => (if x0 = ov16 then some (true, I17, J18) else some (false, I17, J18)))))))))
theorem d230 {X : (Nat → Int32) × Nat} {d : Nat} {I : Nat → Nat → Int32} {J : Nat → Nat → Int64} {P : Nat → Nat → Value} {e r k r2 k2 : Nat} {x0 : Int32} {q : Bool × (Nat → Nat → Int32) × (Nat → Nat → Int64)} (hw : pm_W P r k r2 k2)  (h : f230 x0 I J = some q) : pm_Fn X (d + 6) 230 0 [.int x0] (I, J, P, pm_T0, e) (.inl (some (.int (pm_bi q.1)))) (q.2.1, q.2.2, P, pm_T0, e) := by
  obtain ⟨hp, hw1, hw2, hw3, hw4, hw5, hw6, hw7, hw8, hw9, hw10, hw11⟩ := id hw
  have hwa := hw5.1
  have hwb := hw6.1
  have hwc := hw7.1
  have hwd := hw8.1
  unfold f230 at h
  refine fn_s ml230 rfl rfl rfl ?_
  refine il0 c230_0 ?_
  refine r_ks v230_1 ?_
  obtain ⟨⟨ov1, I2, J3⟩, e4, h⟩ := pm_bd_sp h
  dsimp only at h
  refine cv1 q230_3 (v := .int ov1) (μ1 := (I2, J3, P, pm_T0, e)) (d231 hw (by first | rfl | assumption | decide) e4) rfl ?_
  refine r_iceq (t := 36) c230_6 rfl (fun h5 => ?_) (fun h5 => ?_)
  · rw [if_pos h5] at h
    refine r_ic c230_36 kI1 ?_
    refine r_go (t := 41) c230_37 rfl ?_
    cases h
    exact r_rz c230_41 rt230 (by decide) rfl rfl
  · rw [if_neg h5] at h
    refine il0 c230_9 ?_
    refine r_ks v230_10 ?_
    obtain ⟨⟨ov6, I7, J8⟩, e9, h⟩ := pm_bd_sp h
    dsimp only at h
    refine cv1 q230_12 (v := .int ov6) (μ1 := (I7, J8, P, pm_T0, e)) (d231 hw (by first | rfl | assumption | decide) e9) rfl ?_
    refine r_iceq (t := 36) c230_15 rfl (fun h10 => ?_) (fun h10 => ?_)
    · rw [if_pos h10] at h
      refine r_ic c230_36 kI1 ?_
      refine r_go (t := 41) c230_37 rfl ?_
      cases h
      exact r_rz c230_41 rt230 (by decide) rfl rfl
    · rw [if_neg h10] at h
      refine il0 c230_18 ?_
      refine r_ks v230_19 ?_
      obtain ⟨⟨ov11, I12, J13⟩, e14, h⟩ := pm_bd_sp h
      dsimp only at h
      refine cv1 q230_21 (v := .int ov11) (μ1 := (I12, J13, P, pm_T0, e)) (d231 hw (by first | rfl | assumption | decide) e14) rfl ?_
      refine r_iceq (t := 36) c230_24 rfl (fun h15 => ?_) (fun h15 => ?_)
      · rw [if_pos h15] at h
        refine r_ic c230_36 kI1 ?_
        refine r_go (t := 41) c230_37 rfl ?_
        cases h
        exact r_rz c230_41 rt230 (by decide) rfl rfl
      · rw [if_neg h15] at h
        refine il0 c230_27 ?_
        refine r_ks v230_28 ?_
        obtain ⟨⟨ov16, I17, J18⟩, e19, h⟩ := pm_bd_sp h
        dsimp only at h
        refine cv1 q230_30 (v := .int ov16) (μ1 := (I17, J18, P, pm_T0, e)) (d231 hw (by first | rfl | assumption | decide) e19) rfl ?_
        refine r_icne (t := 40) c230_33 rfl (fun h20 => ?_) (fun h20 => ?_)
        · rw [if_neg h20] at h
          refine r_ic c230_40 kI0 ?_
          cases h
          exact r_rz c230_41 rt230 (by decide) rfl rfl
        · rw [if_pos h20] at h
          refine r_ic c230_36 kI1 ?_
          refine r_go (t := 41) c230_37 rfl ?_
          cases h
          exact r_rz c230_41 rt230 (by decide) rfl rfl
def f232 (x1 : Int32) (x2 : Int32) (I : Nat → Nat → Int32) (J : Nat → Nat → Int64) : Option (Unit × (Nat → Nat → Int32) × (Nat → Nat → Int64)) := (if (I 127 5) = (-1) then pm_lt (pm_w I 127 5 x2) (fun I2 => pm_lt (pm_w I2 127 6 x1) (fun I3 => some ((), I3, J))) else some ((), I, J))
theorem d232 {X : (Nat → Int32) × Nat} {d : Nat} {I : Nat → Nat → Int32} {J : Nat → Nat → Int64} {P : Nat → Nat → Value} {e r k r2 k2 : Nat} {x1 : Int32} {x2 : Int32} {q : Unit × (Nat → Nat → Int32) × (Nat → Nat → Int64)} (hw : pm_W P r k r2 k2)  (h : f232 x1 x2 I J = some q) : pm_Fn X (d) 232 1 [.ref 127, .int x1, .int x2] (I, J, P, pm_T0, e) (.inl none) (q.2.1, q.2.2, P, pm_T0, e) := by
  obtain ⟨hp, hw1, hw2, hw3, hw4, hw5, hw6, hw7, hw8, hw9, hw10, hw11⟩ := id hw
  have hwa := hw5.1
  have hwb := hw6.1
  have hwc := hw7.1
  have hwd := hw8.1
  unfold f232 at h
  refine fn_v rc232 (c := 12) (nf := 59) (by first | rfl | assumption) ml232 rfl rfl rfl rfl ?_
  refine al0 c232_0 ?_
  refine r_gi g232_1 (by first | rfl | assumption) rfl ?_
  refine r_ic c232_4 kIm1 ?_
  refine r_iceq (t := 9) c232_5 rfl (fun h1 => ?_) (fun h1 => ?_)
  · rw [if_pos h1] at h
    refine al0 c232_9 ?_
    refine il2 c232_10 ?_
    refine w_pi p232_11 (by first | rfl | assumption) rfl ?_
    rw [pm_lt_eq] at h
    generalize pm_w I 127 5 x2 = I2 at h ⊢
    refine al0 c232_14 ?_
    refine il1 c232_15 ?_
    refine w_pi p232_16 (by first | rfl | assumption) rfl ?_
    rw [pm_lt_eq] at h
    generalize pm_w I2 127 6 x1 = I3 at h ⊢
    cases h
    exact r_rv c232_19 rt232 rfl
  · rw [if_neg h1] at h
    cases h
    exact r_rv c232_8 rt232 rfl
def f233_0  : Nat → (Nat → Nat → Int32) → (Nat → Nat → Int64) → Option (Unit × (Nat → Nat → Int32) × (Nat → Nat → Int64))
  | 0, _, _ => none
  | fu + 1, I, J => (if (I 127 4).toInt < (I 127 3).toInt then pm_gd (pm_in (I 127 4) 600) ((if (v228 (I 129 (I 127 4).toNatClampNeg) I) = true then pm_lt (pm_w I 127 4 ((I 127 4) + 1)) (fun I4 => f233_0 fu  I4 J) else some ((), I, J))) else some ((), I, J))
def f233  (I : Nat → Nat → Int32) (J : Nat → Nat → Int64) : Option (Unit × (Nat → Nat → Int32) × (Nat → Nat → Int64)) := f233_0 pm_FU  I J
theorem d233_0 {X : (Nat → Int32) × Nat} {d : Nat} {P : Nat → Nat → Value} {e r k r2 k2 : Nat}  (hw : pm_W P r k r2 k2)  : ∀ (fu : Nat) {I : Nat → Nat → Int32} {J : Nat → Nat → Int64} {q : Unit × (Nat → Nat → Int32) × (Nat → Nat → Int64)} (h : f233_0 fu I J = some q), pm_Fx X (d + 1) 233 0 [.ref 127] [] (I, J, P, pm_T0, e) (.inl none) (q.2.1, q.2.2, P, pm_T0, e) := by
  obtain ⟨hp, hw1, hw2, hw3, hw4, hw5, hw6, hw7, hw8, hw9, hw10, hw11⟩ := id hw
  have hwa := hw5.1
  have hwb := hw6.1
  have hwc := hw7.1
  have hwd := hw8.1
  intro fu
  induction fu with
  | zero => intro I J q h; cases h
  | succ fu ih =>
    intro I J q h
    rw [f233_0] at h
    refine al0 c233_0 ?_
    refine r_gi g233_1 (by first | rfl | assumption) rfl ?_
    refine al0 c233_4 ?_
    refine r_gi g233_5 (by first | rfl | assumption) rfl ?_
    refine r_icge (t := 39) c233_8 rfl (fun h1 => ?_) (fun h1 => ?_)
    · rw [if_neg (Int.not_lt.mpr h1)] at h
      cases h
      exact r_rv c233_39 rt233 rfl
    · rw [if_pos h1] at h
      refine al0 c233_11 ?_
      refine r_gr g233_12 rfl rfl (hp _ _ _ rfl) ?_
      refine al0 c233_15 ?_
      refine r_gi g233_16 (by first | rfl | assumption) rfl ?_
      obtain ⟨gd2, h⟩ := pm_gd_sp h
      refine w_ia c233_19 (by first | rfl | assumption) gd2 ?_
      refine cv1 q233_20 (d228 hw rfl) rfl ?_
      refine r_ifeq (t := 39) c233_23 rfl (fun h3 => ?_) (fun h3 => ?_)
      · rw [if_neg (pm_bf h3)] at h
        cases h
        exact r_rv c233_39 rt233 rfl
      · rw [if_pos (pm_bt h3)] at h
        refine al0 c233_26 ?_
        refine r_dpr c233_27 ?_
        refine r_gi g233_28 (by first | rfl | assumption) rfl ?_
        refine r_ic c233_31 kI1 ?_
        refine r_iadd c233_32 ?_
        refine w_pi p233_33 (by first | rfl | assumption) rfl ?_
        rw [pm_lt_eq] at h
        generalize pm_w I 127 4 ((I 127 4) + 1) = I4 at h ⊢
        refine r_go (t := 0) c233_36 rfl ?_
        exact ih h
theorem d233 {X : (Nat → Int32) × Nat} {d : Nat} {I : Nat → Nat → Int32} {J : Nat → Nat → Int64} {P : Nat → Nat → Value} {e r k r2 k2 : Nat}  {q : Unit × (Nat → Nat → Int32) × (Nat → Nat → Int64)} (hw : pm_W P r k r2 k2)  (h : f233  I J = some q) : pm_Fn X (d + 1) 233 1 [.ref 127] (I, J, P, pm_T0, e) (.inl none) (q.2.1, q.2.2, P, pm_T0, e) := by
  obtain ⟨hp, hw1, hw2, hw3, hw4, hw5, hw6, hw7, hw8, hw9, hw10, hw11⟩ := id hw
  have hwa := hw5.1
  have hwb := hw6.1
  have hwc := hw7.1
  have hwd := hw8.1
  unfold f233 at h
  refine fn_v rc233 (c := 12) (nf := 59) (by first | rfl | assumption) ml233 rfl rfl rfl rfl ?_
  exact d233_0 hw pm_FU h
def v236 (x0 : Int32) (I : Nat → Nat → Int32) : Bool := (if x0.toInt < (48 : Int32).toInt then false else (if (57 : Int32).toInt < x0.toInt then false else true))
theorem d236 {X : (Nat → Int32) × Nat} {d : Nat} {I : Nat → Nat → Int32} {J : Nat → Nat → Int64} {P : Nat → Nat → Value} {e r k r2 k2 : Nat} {x0 : Int32} {q : Bool} (hw : pm_W P r k r2 k2)  (h : v236 x0 I = q) : pm_Fn X (d) 236 0 [.int x0] (I, J, P, pm_T0, e) (.inl (some (.int (pm_bi q)))) (I, J, P, pm_T0, e) := by
  obtain ⟨hp, hw1, hw2, hw3, hw4, hw5, hw6, hw7, hw8, hw9, hw10, hw11⟩ := id hw
  have hwa := hw5.1
  have hwb := hw6.1
  have hwc := hw7.1
  have hwd := hw8.1
  unfold v236 at h
  refine fn_s ml236 rfl rfl rfl ?_
  refine il0 c236_0 ?_
  refine r_bi c236_1 kB48 ?_
  refine r_iclt (t := 16) c236_3 rfl (fun h1 => ?_) (fun h1 => ?_)
  · rw [if_pos h1] at h
    refine r_ic c236_16 kI0 ?_
    cases h
    exact r_rz c236_17 rt236 (by decide) rfl rfl
  · rw [if_neg (Int.not_lt.mpr h1)] at h
    refine il0 c236_6 ?_
    refine r_bi c236_7 kB57 ?_
    refine r_icgt (t := 16) c236_9 rfl (fun h2 => ?_) (fun h2 => ?_)
    · rw [if_pos h2] at h
      refine r_ic c236_16 kI0 ?_
      cases h
      exact r_rz c236_17 rt236 (by decide) rfl rfl
    · rw [if_neg (Int.not_lt.mpr h2)] at h
      refine r_ic c236_12 kI1 ?_
      refine r_go (t := 17) c236_13 rfl ?_
      cases h
      exact r_rz c236_17 rt236 (by decide) rfl rfl
def f235_41  : Nat → Int32 → Int32 → Int32 → Int32 → (Nat → Nat → Int32) → (Nat → Nat → Int64) → Option (Int32 × (Nat → Nat → Int32) × (Nat → Nat → Int64))
  | 0, _, _, _, _, _, _ => none
  | fu + 1, y1, y2, y4, y5, I, J => (if (I 127 4).toInt < (I 127 3).toInt then pm_gd (pm_in (I 127 4) 600) ((if (v236 (I 129 (I 127 4).toNatClampNeg) I) = true then (if (9999 : Int32).toInt < y5.toInt then pm_lt (pm_w I 127 4 ((I 127 4) + 1)) (fun I27 => f235_41 fu y1 y2 y4 10000 I27 J) else pm_gd (pm_in (I 127 4) 600) (pm_lt (pm_w I 127 4 ((I 127 4) + 1)) (fun I26 => f235_41 fu y1 y2 y4 (((10 * y5) + (I 129 (I 127 4).toNatClampNeg)) - 48) I26 J))) else (if y5.toInt < y1.toInt then (f232 2 y4 I J).bind (fun (ov15, I16, J17) => some (0, I16, J17)) else (if y2.toInt < y5.toInt then (f232 2 y4 I J).bind (fun (ov20, I21, J22) => some (0, I21, J22)) else some (y5, I, J))))) else (if y5.toInt < y1.toInt then (f232 2 y4 I J).bind (fun (ov3, I4, J5) => some (0, I4, J5)) else (if y2.toInt < y5.toInt then (f232 2 y4 I J).bind (fun (ov8, I9, J10) => some (0, I9, J10)) else some (y5, I, J))))
def f235 (x1 : Int32) (x2 : Int32) (I : Nat → Nat → Int32) (J : Nat → Nat → Int64) : Option (Int32 × (Nat → Nat → Int32) × (Nat → Nat → Int64)) := (if (v224  I) = true then (f226  I J).bind (fun (ov2, I3, J4) => (if (v236 ov2 I3) = true then f235_41 pm_FU x1 x2 (I3 127 4) 0 I3 J4 else (f232 1 (I3 127 4) I3 J4).bind (fun (ov7, I8, J9) => some (0, I8, J9)))) else some (0, I, J))
theorem d235_41 {X : (Nat → Int32) × Nat} {d : Nat} {P : Nat → Nat → Value} {e r k r2 k2 : Nat}  (hw : pm_W P r k r2 k2)  : ∀ (fu : Nat) {y1 y2 y4 y5 : Int32} {I : Nat → Nat → Int32} {J : Nat → Nat → Int64} {q : Int32 × (Nat → Nat → Int32) × (Nat → Nat → Int64)} {z3 : Value} (h : f235_41 fu y1 y2 y4 y5 I J = some q), pm_Fx X (d + 1) 235 41 [.ref 127, .int y1, .int y2, z3, .int y4, .int y5] [] (I, J, P, pm_T0, e) (.inl (some (.int q.1))) (q.2.1, q.2.2, P, pm_T0, e) := by
  obtain ⟨hp, hw1, hw2, hw3, hw4, hw5, hw6, hw7, hw8, hw9, hw10, hw11⟩ := id hw
  have hwa := hw5.1
  have hwb := hw6.1
  have hwc := hw7.1
  have hwd := hw8.1
  intro fu
  induction fu with
  | zero => intro y1 y2 y4 y5 I J q z3 h; cases h
  | succ fu ih =>
    intro y1 y2 y4 y5 I J q z3 h
    rw [f235_41] at h
    refine al0 c235_41 ?_
    refine r_gi g235_42 (by first | rfl | assumption) rfl ?_
    refine al0 c235_45 ?_
    refine r_gi g235_46 (by first | rfl | assumption) rfl ?_
    refine r_icge (t := 114) c235_49 rfl (fun h1 => ?_) (fun h1 => ?_)
    · rw [if_neg (Int.not_lt.mpr h1)] at h
      refine il5 c235_114 ?_
      refine il1 c235_116 ?_
      refine r_iclt (t := 126) c235_117 rfl (fun h2 => ?_) (fun h2 => ?_)
      · rw [if_pos h2] at h
        refine al0 c235_126 ?_
        refine r_ic c235_127 kI2 ?_
        refine il4 c235_128 ?_
        obtain ⟨⟨ov3, I4, J5⟩, e6, h⟩ := pm_bd_sp h
        dsimp only at h
        refine cz3 q235_130 (μ1 := (I4, J5, P, pm_T0, e)) (d232 hw e6) rfl ?_
        refine r_ic c235_133 kI0 ?_
        cases h
        exact r_ri c235_134 rt235 rfl rfl
      · rw [if_neg (Int.not_lt.mpr h2)] at h
        refine il5 c235_120 ?_
        refine il2 c235_122 ?_
        refine r_icle (t := 135) c235_123 rfl (fun h7 => ?_) (fun h7 => ?_)
        · rw [if_neg (Int.not_lt.mpr h7)] at h
          refine il5 c235_135 ?_
          cases h
          exact r_ri c235_137 rt235 rfl rfl
        · rw [if_pos h7] at h
          refine al0 c235_126 ?_
          refine r_ic c235_127 kI2 ?_
          refine il4 c235_128 ?_
          obtain ⟨⟨ov8, I9, J10⟩, e11, h⟩ := pm_bd_sp h
          dsimp only at h
          refine cz3 q235_130 (μ1 := (I9, J10, P, pm_T0, e)) (d232 hw e11) rfl ?_
          refine r_ic c235_133 kI0 ?_
          cases h
          exact r_ri c235_134 rt235 rfl rfl
    · rw [if_pos h1] at h
      refine al0 c235_52 ?_
      refine r_gr g235_53 rfl rfl (hp _ _ _ rfl) ?_
      refine al0 c235_56 ?_
      refine r_gi g235_57 (by first | rfl | assumption) rfl ?_
      obtain ⟨gd12, h⟩ := pm_gd_sp h
      refine w_ia c235_60 (by first | rfl | assumption) gd12 ?_
      refine cv1 q235_61 (d236 hw rfl) rfl ?_
      refine r_ifeq (t := 114) c235_64 rfl (fun h13 => ?_) (fun h13 => ?_)
      · rw [if_neg (pm_bf h13)] at h
        refine il5 c235_114 ?_
        refine il1 c235_116 ?_
        refine r_iclt (t := 126) c235_117 rfl (fun h14 => ?_) (fun h14 => ?_)
        · rw [if_pos h14] at h
          refine al0 c235_126 ?_
          refine r_ic c235_127 kI2 ?_
          refine il4 c235_128 ?_
          obtain ⟨⟨ov15, I16, J17⟩, e18, h⟩ := pm_bd_sp h
          dsimp only at h
          refine cz3 q235_130 (μ1 := (I16, J17, P, pm_T0, e)) (d232 hw e18) rfl ?_
          refine r_ic c235_133 kI0 ?_
          cases h
          exact r_ri c235_134 rt235 rfl rfl
        · rw [if_neg (Int.not_lt.mpr h14)] at h
          refine il5 c235_120 ?_
          refine il2 c235_122 ?_
          refine r_icle (t := 135) c235_123 rfl (fun h19 => ?_) (fun h19 => ?_)
          · rw [if_neg (Int.not_lt.mpr h19)] at h
            refine il5 c235_135 ?_
            cases h
            exact r_ri c235_137 rt235 rfl rfl
          · rw [if_pos h19] at h
            refine al0 c235_126 ?_
            refine r_ic c235_127 kI2 ?_
            refine il4 c235_128 ?_
            obtain ⟨⟨ov20, I21, J22⟩, e23, h⟩ := pm_bd_sp h
            dsimp only at h
            refine cz3 q235_130 (μ1 := (I21, J22, P, pm_T0, e)) (d232 hw e23) rfl ?_
            refine r_ic c235_133 kI0 ?_
            cases h
            exact r_ri c235_134 rt235 rfl rfl
      · rw [if_pos (pm_bt h13)] at h
        refine il5 c235_67 ?_
        refine r_si c235_69 kS9999 ?_
        refine r_icle (t := 81) c235_72 rfl (fun h24 => ?_) (fun h24 => ?_)
        · rw [if_neg (Int.not_lt.mpr h24)] at h
          refine r_bi c235_81 kB10 ?_
          refine il5 c235_83 ?_
          refine r_imul c235_85 ?_
          refine al0 c235_86 ?_
          refine r_gr g235_87 rfl rfl (hp _ _ _ rfl) ?_
          refine al0 c235_90 ?_
          refine r_gi g235_91 (by first | rfl | assumption) rfl ?_
          obtain ⟨gd25, h⟩ := pm_gd_sp h
          refine w_ia c235_94 (by first | rfl | assumption) gd25 ?_
          refine r_iadd c235_95 ?_
          refine r_bi c235_96 kB48 ?_
          refine r_isub c235_98 ?_
          refine is5 c235_99 rfl ?_
          refine al0 c235_101 ?_
          refine r_dpr c235_102 ?_
          refine r_gi g235_103 (by first | rfl | assumption) rfl ?_
          refine r_ic c235_106 kI1 ?_
          refine r_iadd c235_107 ?_
          refine w_pi p235_108 (by first | rfl | assumption) rfl ?_
          rw [pm_lt_eq] at h
          generalize pm_w I 127 4 ((I 127 4) + 1) = I26 at h ⊢
          refine r_go (t := 41) c235_111 rfl ?_
          exact ih h
        · rw [if_pos h24] at h
          refine r_si c235_75 kS10000 ?_
          refine r_go (t := 99) c235_78 rfl ?_
          refine is5 c235_99 rfl ?_
          refine al0 c235_101 ?_
          refine r_dpr c235_102 ?_
          refine r_gi g235_103 (by first | rfl | assumption) rfl ?_
          refine r_ic c235_106 kI1 ?_
          refine r_iadd c235_107 ?_
          refine w_pi p235_108 (by first | rfl | assumption) rfl ?_
          rw [pm_lt_eq] at h
          generalize pm_w I 127 4 ((I 127 4) + 1) = I27 at h ⊢
          refine r_go (t := 41) c235_111 rfl ?_
          exact ih h
theorem d235 {X : (Nat → Int32) × Nat} {d : Nat} {I : Nat → Nat → Int32} {J : Nat → Nat → Int64} {P : Nat → Nat → Value} {e r k r2 k2 : Nat} {x1 : Int32} {x2 : Int32} {q : Int32 × (Nat → Nat → Int32) × (Nat → Nat → Int64)} (hw : pm_W P r k r2 k2)  (h : f235 x1 x2 I J = some q) : pm_Fn X (d + 1) 235 1 [.ref 127, .int x1, .int x2] (I, J, P, pm_T0, e) (.inl (some (.int q.1))) (q.2.1, q.2.2, P, pm_T0, e) := by
  obtain ⟨hp, hw1, hw2, hw3, hw4, hw5, hw6, hw7, hw8, hw9, hw10, hw11⟩ := id hw
  have hwa := hw5.1
  have hwb := hw6.1
  have hwc := hw7.1
  have hwd := hw8.1
  unfold f235 at h
  refine fn_v rc235 (c := 12) (nf := 59) (by first | rfl | assumption) ml235 rfl rfl rfl rfl ?_
  refine al0 c235_0 ?_
  refine cv1 q235_1 (d224 hw rfl) rfl ?_
  refine r_ifne (t := 9) c235_4 rfl (fun h1 => ?_) (fun h1 => ?_)
  · rw [if_pos (pm_bt h1)] at h
    refine al0 c235_9 ?_
    obtain ⟨⟨ov2, I3, J4⟩, e5, h⟩ := pm_bd_sp h
    dsimp only at h
    refine cv1 q235_10 (v := .int ov2) (μ1 := (I3, J4, P, pm_T0, e)) (d226 hw e5) rfl ?_
    refine is3 c235_13 rfl ?_
    refine al0 c235_14 ?_
    refine r_gi g235_15 (by first | rfl | assumption) rfl ?_
    refine is4 c235_18 rfl ?_
    refine r_ic c235_20 kI0 ?_
    refine is5 c235_21 rfl ?_
    refine il3 c235_23 ?_
    refine cv1 q235_24 (d236 hw rfl) rfl ?_
    refine r_ifne (t := 41) c235_27 rfl (fun h6 => ?_) (fun h6 => ?_)
    · rw [if_pos (pm_bt h6)] at h
      exact d235_41 hw pm_FU h
    · rw [if_neg (pm_bf h6)] at h
      refine al0 c235_30 ?_
      refine r_ic c235_31 kI1 ?_
      refine al0 c235_32 ?_
      refine r_gi g235_33 (by first | rfl | assumption) rfl ?_
      obtain ⟨⟨ov7, I8, J9⟩, e10, h⟩ := pm_bd_sp h
      dsimp only at h
      refine cz3 q235_36 (μ1 := (I8, J9, P, pm_T0, e)) (d232 hw e10) rfl ?_
      refine r_ic c235_39 kI0 ?_
      cases h
      exact r_ri c235_40 rt235 rfl rfl
  · rw [if_neg (pm_bf h1)] at h
    refine r_ic c235_7 kI0 ?_
    cases h
    exact r_ri c235_8 rt235 rfl rfl
def f234  (I : Nat → Nat → Int32) (J : Nat → Nat → Int64) : Option (Unit × (Nat → Nat → Int32) × (Nat → Nat → Int64)) := (f235 0 ((I 127 14) - 1) I J).bind (fun (ov1, I2, J3) => (f235 0 999 I2 J3).bind (fun (ov5, I6, J7) => (if (v224  I6) = true then pm_gd (pm_in ((4 * ov1) + 3) 32) (pm_lt (pm_w I6 130 ((4 * ov1) + 3).toNatClampNeg ov5) (fun I11 => some ((), I11, J7))) else some ((), I6, J7))))
theorem d234 {X : (Nat → Int32) × Nat} {d : Nat} {I : Nat → Nat → Int32} {J : Nat → Nat → Int64} {P : Nat → Nat → Value} {e r k r2 k2 : Nat}  {q : Unit × (Nat → Nat → Int32) × (Nat → Nat → Int64)} (hw : pm_W P r k r2 k2)  (h : f234  I J = some q) : pm_Fn X (d + 2) 234 1 [.ref 127] (I, J, P, pm_T0, e) (.inl none) (q.2.1, q.2.2, P, pm_T0, e) := by
  obtain ⟨hp, hw1, hw2, hw3, hw4, hw5, hw6, hw7, hw8, hw9, hw10, hw11⟩ := id hw
  have hwa := hw5.1
  have hwb := hw6.1
  have hwc := hw7.1
  have hwd := hw8.1
  unfold f234 at h
  refine fn_v rc234 (c := 12) (nf := 59) (by first | rfl | assumption) ml234 rfl rfl rfl rfl ?_
  refine al0 c234_0 ?_
  refine r_ic c234_1 kI0 ?_
  refine al0 c234_2 ?_
  refine r_gi g234_3 (by first | rfl | assumption) rfl ?_
  refine r_ic c234_6 kI1 ?_
  refine r_isub c234_7 ?_
  obtain ⟨⟨ov1, I2, J3⟩, e4, h⟩ := pm_bd_sp h
  dsimp only at h
  refine cv3 q234_8 (v := .int ov1) (μ1 := (I2, J3, P, pm_T0, e)) (d235 hw e4) rfl ?_
  refine is1 c234_11 rfl ?_
  refine al0 c234_12 ?_
  refine r_ic c234_13 kI0 ?_
  refine r_si c234_14 kS999 ?_
  obtain ⟨⟨ov5, I6, J7⟩, e8, h⟩ := pm_bd_sp h
  dsimp only at h
  refine cv3 q234_17 (v := .int ov5) (μ1 := (I6, J7, P, pm_T0, e)) (d235 hw e8) rfl ?_
  refine is2 c234_20 rfl ?_
  refine al0 c234_21 ?_
  refine cv1 q234_22 (d224 hw rfl) rfl ?_
  refine r_ifeq (t := 39) c234_25 rfl (fun h9 => ?_) (fun h9 => ?_)
  · rw [if_neg (pm_bf h9)] at h
    cases h
    exact r_rv c234_39 rt234 rfl
  · rw [if_pos (pm_bt h9)] at h
    refine al0 c234_28 ?_
    refine r_gr g234_29 rfl rfl (hp _ _ _ rfl) ?_
    refine r_ic c234_32 kI4 ?_
    refine il1 c234_33 ?_
    refine r_imul c234_34 ?_
    refine r_ic c234_35 kI3 ?_
    refine r_iadd c234_36 ?_
    refine il2 c234_37 ?_
    obtain ⟨gd10, h⟩ := pm_gd_sp h
    refine w_ist c234_38 (by first | rfl | assumption) gd10 ?_
    rw [pm_lt_eq] at h
    generalize pm_w I6 130 ((4 * ov1) + 3).toNatClampNeg ov5 = I11 at h ⊢
    cases h
    exact r_rv c234_39 rt234 rfl
def f237 (x1 : Int32) (I : Nat → Nat → Int32) (J : Nat → Nat → Int64) : Option (Unit × (Nat → Nat → Int32) × (Nat → Nat → Int64)) := (f231 2 I J).bind (fun (ov1, I2, J3) => (if x1 = ov1 then (f235 1 9 I2 J3).bind (fun (ov45, I46, J47) => pm_gd (pm_in ((4 * (I2 127 14)) + 0) 32) (pm_lt (pm_w I46 130 ((4 * (I2 127 14)) + 0).toNatClampNeg ov45) (fun I50 => (f235 0 5 I50 J47).bind (fun (ov51, I52, J53) => pm_gd (pm_in ((4 * (I2 127 14)) + 1) 32) (pm_lt (pm_w I52 130 ((4 * (I2 127 14)) + 1).toNatClampNeg ov51) (fun I56 => (f235 0 4 I56 J53).bind (fun (ov57, I58, J59) => pm_gd (pm_in ((4 * (I2 127 14)) + 2) 32) (pm_lt (pm_w I58 130 ((4 * (I2 127 14)) + 2).toNatClampNeg ov57) (fun I62 => pm_gd (pm_in ((4 * (I2 127 14)) + 3) 32) (pm_lt (pm_w I62 130 ((4 * (I2 127 14)) + 3).toNatClampNeg 0) (fun I64 => pm_lt (pm_w I64 127 14 ((I64 127 14) + 1)) (fun I65 => some ((), I65, J59))))))))))))) else (f231 4 I2 J3).bind (fun (ov6, I7, J8) => (if x1 = ov6 then (f235 0 5 I7 J8).bind (fun (ov26, I27, J28) => pm_gd (pm_in (3 * (I7 127 15)) 15) (pm_lt (pm_w I27 131 (3 * (I7 127 15)).toNatClampNeg ov26) (fun I31 => (f235 1 40 I31 J28).bind (fun (ov32, I33, J34) => pm_gd (pm_in ((3 * (I7 127 15)) + 1) 15) (pm_lt (pm_w I33 131 ((3 * (I7 127 15)) + 1).toNatClampNeg ov32) (fun I37 => (f235 1 4 I37 J34).bind (fun (ov38, I39, J40) => pm_gd (pm_in ((3 * (I7 127 15)) + 2) 15) (pm_lt (pm_w I39 131 ((3 * (I7 127 15)) + 2).toNatClampNeg ov38) (fun I43 => pm_lt (pm_w I43 127 15 ((I43 127 15) + 1)) (fun I44 => some ((), I44, J40))))))))))) else (f231 8 I7 J8).bind (fun (ov11, I12, J13) => (if x1 = ov11 then (f235 0 400 I12 J13).bind (fun (ov21, I22, J23) => pm_lt (pm_w I22 127 16 ov21) (fun I25 => some ((), I25, J23))) else (f235 0 20 I12 J13).bind (fun (ov16, I17, J18) => pm_lt (pm_w I17 127 17 ov16) (fun I20 => some ((), I20, J18)))))))))
theorem d237 {X : (Nat → Int32) × Nat} {d : Nat} {I : Nat → Nat → Int32} {J : Nat → Nat → Int64} {P : Nat → Nat → Value} {e r k r2 k2 : Nat} {x1 : Int32} {q : Unit × (Nat → Nat → Int32) × (Nat → Nat → Int64)} (hw : pm_W P r k r2 k2)  (h : f237 x1 I J = some q) : pm_Fn X (d + 6) 237 1 [.ref 127, .int x1] (I, J, P, pm_T0, e) (.inl none) (q.2.1, q.2.2, P, pm_T0, e) := by
  obtain ⟨hp, hw1, hw2, hw3, hw4, hw5, hw6, hw7, hw8, hw9, hw10, hw11⟩ := id hw
  have hwa := hw5.1
  have hwb := hw6.1
  have hwc := hw7.1
  have hwd := hw8.1
  unfold f237 at h
  refine fn_v rc237 (c := 12) (nf := 59) (by first | rfl | assumption) ml237 rfl rfl rfl rfl ?_
  refine il1 c237_0 ?_
  refine r_ks v237_1 ?_
  obtain ⟨⟨ov1, I2, J3⟩, e4, h⟩ := pm_bd_sp h
  dsimp only at h
  refine cv1 q237_3 (v := .int ov1) (μ1 := (I2, J3, P, pm_T0, e)) (d231 hw (by first | rfl | assumption | decide) e4) rfl ?_
  refine r_icne (t := 81) c237_6 rfl (fun h5 => ?_) (fun h5 => ?_)
  · rw [if_neg h5] at h
    refine il1 c237_81 ?_
    refine r_ks v237_82 ?_
    obtain ⟨⟨ov6, I7, J8⟩, e9, h⟩ := pm_bd_sp h
    dsimp only at h
    refine cv1 q237_84 (v := .int ov6) (μ1 := (I7, J8, P, pm_T0, e)) (d231 hw (by first | rfl | assumption | decide) e9) rfl ?_
    refine r_icne (t := 151) c237_87 rfl (fun h10 => ?_) (fun h10 => ?_)
    · rw [if_neg h10] at h
      refine il1 c237_151 ?_
      refine r_ks v237_152 ?_
      obtain ⟨⟨ov11, I12, J13⟩, e14, h⟩ := pm_bd_sp h
      dsimp only at h
      refine cv1 q237_154 (v := .int ov11) (μ1 := (I12, J13, P, pm_T0, e)) (d231 hw (by first | rfl | assumption | decide) e14) rfl ?_
      refine r_icne (t := 175) c237_157 rfl (fun h15 => ?_) (fun h15 => ?_)
      · rw [if_neg h15] at h
        refine al0 c237_175 ?_
        refine al0 c237_176 ?_
        refine r_ic c237_177 kI0 ?_
        refine r_bi c237_178 kB20 ?_
        obtain ⟨⟨ov16, I17, J18⟩, e19, h⟩ := pm_bd_sp h
        dsimp only at h
        refine cv3 q237_180 (v := .int ov16) (μ1 := (I17, J18, P, pm_T0, e)) (d235 hw e19) rfl ?_
        refine w_pi p237_183 (by first | rfl | assumption) rfl ?_
        rw [pm_lt_eq] at h
        generalize pm_w I17 127 17 ov16 = I20 at h ⊢
        cases h
        exact r_rv c237_186 rt237 rfl
      · rw [if_pos h15] at h
        refine al0 c237_160 ?_
        refine al0 c237_161 ?_
        refine r_ic c237_162 kI0 ?_
        refine r_si c237_163 kS400 ?_
        obtain ⟨⟨ov21, I22, J23⟩, e24, h⟩ := pm_bd_sp h
        dsimp only at h
        refine cv3 q237_166 (v := .int ov21) (μ1 := (I22, J23, P, pm_T0, e)) (d235 hw e24) rfl ?_
        refine w_pi p237_169 (by first | rfl | assumption) rfl ?_
        rw [pm_lt_eq] at h
        generalize pm_w I22 127 16 ov21 = I25 at h ⊢
        refine r_go (t := 186) c237_172 rfl ?_
        cases h
        exact r_rv c237_186 rt237 rfl
    · rw [if_pos h10] at h
      refine r_ic c237_90 kI3 ?_
      refine al0 c237_91 ?_
      refine r_gi g237_92 (by first | rfl | assumption) rfl ?_
      refine r_imul c237_95 ?_
      refine is2 c237_96 rfl ?_
      refine al0 c237_97 ?_
      refine r_gr g237_98 rfl rfl (hp _ _ _ rfl) ?_
      refine il2 c237_101 ?_
      refine al0 c237_102 ?_
      refine r_ic c237_103 kI0 ?_
      refine r_ic c237_104 kI5 ?_
      obtain ⟨⟨ov26, I27, J28⟩, e29, h⟩ := pm_bd_sp h
      dsimp only at h
      refine cv3 q237_105 (v := .int ov26) (μ1 := (I27, J28, P, pm_T0, e)) (d235 hw e29) rfl ?_
      obtain ⟨gd30, h⟩ := pm_gd_sp h
      refine w_ist c237_108 (by first | rfl | assumption) gd30 ?_
      rw [pm_lt_eq] at h
      generalize pm_w I27 131 (3 * (I7 127 15)).toNatClampNeg ov26 = I31 at h ⊢
      refine al0 c237_109 ?_
      refine r_gr g237_110 rfl rfl (hp _ _ _ rfl) ?_
      refine il2 c237_113 ?_
      refine r_ic c237_114 kI1 ?_
      refine r_iadd c237_115 ?_
      refine al0 c237_116 ?_
      refine r_ic c237_117 kI1 ?_
      refine r_bi c237_118 kB40 ?_
      obtain ⟨⟨ov32, I33, J34⟩, e35, h⟩ := pm_bd_sp h
      dsimp only at h
      refine cv3 q237_120 (v := .int ov32) (μ1 := (I33, J34, P, pm_T0, e)) (d235 hw e35) rfl ?_
      obtain ⟨gd36, h⟩ := pm_gd_sp h
      refine w_ist c237_123 (by first | rfl | assumption) gd36 ?_
      rw [pm_lt_eq] at h
      generalize pm_w I33 131 ((3 * (I7 127 15)) + 1).toNatClampNeg ov32 = I37 at h ⊢
      refine al0 c237_124 ?_
      refine r_gr g237_125 rfl rfl (hp _ _ _ rfl) ?_
      refine il2 c237_128 ?_
      refine r_ic c237_129 kI2 ?_
      refine r_iadd c237_130 ?_
      refine al0 c237_131 ?_
      refine r_ic c237_132 kI1 ?_
      refine r_ic c237_133 kI4 ?_
      obtain ⟨⟨ov38, I39, J40⟩, e41, h⟩ := pm_bd_sp h
      dsimp only at h
      refine cv3 q237_134 (v := .int ov38) (μ1 := (I39, J40, P, pm_T0, e)) (d235 hw e41) rfl ?_
      obtain ⟨gd42, h⟩ := pm_gd_sp h
      refine w_ist c237_137 (by first | rfl | assumption) gd42 ?_
      rw [pm_lt_eq] at h
      generalize pm_w I39 131 ((3 * (I7 127 15)) + 2).toNatClampNeg ov38 = I43 at h ⊢
      refine al0 c237_138 ?_
      refine r_dpr c237_139 ?_
      refine r_gi g237_140 (by first | rfl | assumption) rfl ?_
      refine r_ic c237_143 kI1 ?_
      refine r_iadd c237_144 ?_
      refine w_pi p237_145 (by first | rfl | assumption) rfl ?_
      rw [pm_lt_eq] at h
      generalize pm_w I43 127 15 ((I43 127 15) + 1) = I44 at h ⊢
      refine r_go (t := 186) c237_148 rfl ?_
      cases h
      exact r_rv c237_186 rt237 rfl
  · rw [if_pos h5] at h
    refine r_ic c237_9 kI4 ?_
    refine al0 c237_10 ?_
    refine r_gi g237_11 (by first | rfl | assumption) rfl ?_
    refine r_imul c237_14 ?_
    refine is2 c237_15 rfl ?_
    refine al0 c237_16 ?_
    refine r_gr g237_17 rfl rfl (hp _ _ _ rfl) ?_
    refine il2 c237_20 ?_
    refine r_ic c237_21 kI0 ?_
    refine r_iadd c237_22 ?_
    refine al0 c237_23 ?_
    refine r_ic c237_24 kI1 ?_
    refine r_bi c237_25 kB9 ?_
    obtain ⟨⟨ov45, I46, J47⟩, e48, h⟩ := pm_bd_sp h
    dsimp only at h
    refine cv3 q237_27 (v := .int ov45) (μ1 := (I46, J47, P, pm_T0, e)) (d235 hw e48) rfl ?_
    obtain ⟨gd49, h⟩ := pm_gd_sp h
    refine w_ist c237_30 (by first | rfl | assumption) gd49 ?_
    rw [pm_lt_eq] at h
    generalize pm_w I46 130 ((4 * (I2 127 14)) + 0).toNatClampNeg ov45 = I50 at h ⊢
    refine al0 c237_31 ?_
    refine r_gr g237_32 rfl rfl (hp _ _ _ rfl) ?_
    refine il2 c237_35 ?_
    refine r_ic c237_36 kI1 ?_
    refine r_iadd c237_37 ?_
    refine al0 c237_38 ?_
    refine r_ic c237_39 kI0 ?_
    refine r_ic c237_40 kI5 ?_
    obtain ⟨⟨ov51, I52, J53⟩, e54, h⟩ := pm_bd_sp h
    dsimp only at h
    refine cv3 q237_41 (v := .int ov51) (μ1 := (I52, J53, P, pm_T0, e)) (d235 hw e54) rfl ?_
    obtain ⟨gd55, h⟩ := pm_gd_sp h
    refine w_ist c237_44 (by first | rfl | assumption) gd55 ?_
    rw [pm_lt_eq] at h
    generalize pm_w I52 130 ((4 * (I2 127 14)) + 1).toNatClampNeg ov51 = I56 at h ⊢
    refine al0 c237_45 ?_
    refine r_gr g237_46 rfl rfl (hp _ _ _ rfl) ?_
    refine il2 c237_49 ?_
    refine r_ic c237_50 kI2 ?_
    refine r_iadd c237_51 ?_
    refine al0 c237_52 ?_
    refine r_ic c237_53 kI0 ?_
    refine r_ic c237_54 kI4 ?_
    obtain ⟨⟨ov57, I58, J59⟩, e60, h⟩ := pm_bd_sp h
    dsimp only at h
    refine cv3 q237_55 (v := .int ov57) (μ1 := (I58, J59, P, pm_T0, e)) (d235 hw e60) rfl ?_
    obtain ⟨gd61, h⟩ := pm_gd_sp h
    refine w_ist c237_58 (by first | rfl | assumption) gd61 ?_
    rw [pm_lt_eq] at h
    generalize pm_w I58 130 ((4 * (I2 127 14)) + 2).toNatClampNeg ov57 = I62 at h ⊢
    refine al0 c237_59 ?_
    refine r_gr g237_60 rfl rfl (hp _ _ _ rfl) ?_
    refine il2 c237_63 ?_
    refine r_ic c237_64 kI3 ?_
    refine r_iadd c237_65 ?_
    refine r_ic c237_66 kI0 ?_
    obtain ⟨gd63, h⟩ := pm_gd_sp h
    refine w_ist c237_67 (by first | rfl | assumption) gd63 ?_
    rw [pm_lt_eq] at h
    generalize pm_w I62 130 ((4 * (I2 127 14)) + 3).toNatClampNeg 0 = I64 at h ⊢
    refine al0 c237_68 ?_
    refine r_dpr c237_69 ?_
    refine r_gi g237_70 (by first | rfl | assumption) rfl ?_
    refine r_ic c237_73 kI1 ?_
    refine r_iadd c237_74 ?_
    refine w_pi p237_75 (by first | rfl | assumption) rfl ?_
    rw [pm_lt_eq] at h
    generalize pm_w I64 127 14 ((I64 127 14) + 1) = I65 at h ⊢
    refine r_go (t := 186) c237_78 rfl ?_
    cases h
    exact r_rv c237_186 rt237 rfl
def f238 (x1 : Int32) (I : Nat → Nat → Int32) (J : Nat → Nat → Int64) : Option (Unit × (Nat → Nat → Int32) × (Nat → Nat → Int64)) := (if (v224  I) = true then (f226  I J).bind (fun (ov4, I5, J6) => (if ov4 = x1 then (if (v224  I5) = true then pm_lt (pm_w I5 127 4 ((I5 127 4) + 1)) (fun I10 => some ((), I10, J6)) else some ((), I5, J6)) else (f232 1 (I5 127 4) I5 J6).bind (fun (ov11, I12, J13) => (if (v224  I12) = true then pm_lt (pm_w I12 127 4 ((I12 127 4) + 1)) (fun I16 => some ((), I16, J13)) else some ((), I12, J13))))) else (if (v224  I) = true then pm_lt (pm_w I 127 4 ((I 127 4) + 1)) (fun I3 => some ((), I3, J)) else some ((), I, J)))
theorem d238 {X : (Nat → Int32) × Nat} {d : Nat} {I : Nat → Nat → Int32} {J : Nat → Nat → Int64} {P : Nat → Nat → Value} {e r k r2 k2 : Nat} {x1 : Int32} {q : Unit × (Nat → Nat → Int32) × (Nat → Nat → Int64)} (hw : pm_W P r k r2 k2)  (h : f238 x1 I J = some q) : pm_Fn X (d + 1) 238 1 [.ref 127, .int x1] (I, J, P, pm_T0, e) (.inl none) (q.2.1, q.2.2, P, pm_T0, e) := by
  obtain ⟨hp, hw1, hw2, hw3, hw4, hw5, hw6, hw7, hw8, hw9, hw10, hw11⟩ := id hw
  have hwa := hw5.1
  have hwb := hw6.1
  have hwc := hw7.1
  have hwd := hw8.1
  unfold f238 at h
  refine fn_v rc238 (c := 12) (nf := 59) (by first | rfl | assumption) ml238 rfl rfl rfl rfl ?_
  refine al0 c238_0 ?_
  refine cv1 q238_1 (d224 hw rfl) rfl ?_
  refine r_ifeq (t := 24) c238_4 rfl (fun h1 => ?_) (fun h1 => ?_)
  · rw [if_neg (pm_bf h1)] at h
    refine al0 c238_24 ?_
    refine cv1 q238_25 (d224 hw rfl) rfl ?_
    refine r_ifeq (t := 41) c238_28 rfl (fun h2 => ?_) (fun h2 => ?_)
    · rw [if_neg (pm_bf h2)] at h
      cases h
      exact r_rv c238_41 rt238 rfl
    · rw [if_pos (pm_bt h2)] at h
      refine al0 c238_31 ?_
      refine r_dpr c238_32 ?_
      refine r_gi g238_33 (by first | rfl | assumption) rfl ?_
      refine r_ic c238_36 kI1 ?_
      refine r_iadd c238_37 ?_
      refine w_pi p238_38 (by first | rfl | assumption) rfl ?_
      rw [pm_lt_eq] at h
      generalize pm_w I 127 4 ((I 127 4) + 1) = I3 at h ⊢
      cases h
      exact r_rv c238_41 rt238 rfl
  · rw [if_pos (pm_bt h1)] at h
    refine al0 c238_7 ?_
    obtain ⟨⟨ov4, I5, J6⟩, e7, h⟩ := pm_bd_sp h
    dsimp only at h
    refine cv1 q238_8 (v := .int ov4) (μ1 := (I5, J6, P, pm_T0, e)) (d226 hw e7) rfl ?_
    refine il1 c238_11 ?_
    refine r_iceq (t := 24) c238_12 rfl (fun h8 => ?_) (fun h8 => ?_)
    · rw [if_pos h8] at h
      refine al0 c238_24 ?_
      refine cv1 q238_25 (d224 hw rfl) rfl ?_
      refine r_ifeq (t := 41) c238_28 rfl (fun h9 => ?_) (fun h9 => ?_)
      · rw [if_neg (pm_bf h9)] at h
        cases h
        exact r_rv c238_41 rt238 rfl
      · rw [if_pos (pm_bt h9)] at h
        refine al0 c238_31 ?_
        refine r_dpr c238_32 ?_
        refine r_gi g238_33 (by first | rfl | assumption) rfl ?_
        refine r_ic c238_36 kI1 ?_
        refine r_iadd c238_37 ?_
        refine w_pi p238_38 (by first | rfl | assumption) rfl ?_
        rw [pm_lt_eq] at h
        generalize pm_w I5 127 4 ((I5 127 4) + 1) = I10 at h ⊢
        cases h
        exact r_rv c238_41 rt238 rfl
    · rw [if_neg h8] at h
      refine al0 c238_15 ?_
      refine r_ic c238_16 kI1 ?_
      refine al0 c238_17 ?_
      refine r_gi g238_18 (by first | rfl | assumption) rfl ?_
      obtain ⟨⟨ov11, I12, J13⟩, e14, h⟩ := pm_bd_sp h
      dsimp only at h
      refine cz3 q238_21 (μ1 := (I12, J13, P, pm_T0, e)) (d232 hw e14) rfl ?_
      refine al0 c238_24 ?_
      refine cv1 q238_25 (d224 hw rfl) rfl ?_
      refine r_ifeq (t := 41) c238_28 rfl (fun h15 => ?_) (fun h15 => ?_)
      · rw [if_neg (pm_bf h15)] at h
        cases h
        exact r_rv c238_41 rt238 rfl
      · rw [if_pos (pm_bt h15)] at h
        refine al0 c238_31 ?_
        refine r_dpr c238_32 ?_
        refine r_gi g238_33 (by first | rfl | assumption) rfl ?_
        refine r_ic c238_36 kI1 ?_
        refine r_iadd c238_37 ?_
        refine w_pi p238_38 (by first | rfl | assumption) rfl ?_
        rw [pm_lt_eq] at h
        generalize pm_w I12 127 4 ((I12 127 4) + 1) = I16 at h ⊢
        cases h
        exact r_rv c238_41 rt238 rfl
def f239 (x1 : Int32) (I : Nat → Nat → Int32) (J : Nat → Nat → Int64) : Option (Int32 × (Nat → Nat → Int32) × (Nat → Nat → Int64)) := pm_lt (pm_w I 127 8 (I 127 5)) (fun I1 => (if (v224  I1) = true then some (x1, I1, J) else some ((I1 127 6) - 10, I1, J)))
theorem d239 {X : (Nat → Int32) × Nat} {d : Nat} {I : Nat → Nat → Int32} {J : Nat → Nat → Int64} {P : Nat → Nat → Value} {e r k r2 k2 : Nat} {x1 : Int32} {q : Int32 × (Nat → Nat → Int32) × (Nat → Nat → Int64)} (hw : pm_W P r k r2 k2)  (h : f239 x1 I J = some q) : pm_Fn X (d + 1) 239 1 [.ref 127, .int x1] (I, J, P, pm_T0, e) (.inl (some (.int q.1))) (q.2.1, q.2.2, P, pm_T0, e) := by
  obtain ⟨hp, hw1, hw2, hw3, hw4, hw5, hw6, hw7, hw8, hw9, hw10, hw11⟩ := id hw
  have hwa := hw5.1
  have hwb := hw6.1
  have hwc := hw7.1
  have hwd := hw8.1
  unfold f239 at h
  refine fn_v rc239 (c := 12) (nf := 59) (by first | rfl | assumption) ml239 rfl rfl rfl rfl ?_
  refine al0 c239_0 ?_
  refine al0 c239_1 ?_
  refine r_gi g239_2 (by first | rfl | assumption) rfl ?_
  refine w_pi p239_5 (by first | rfl | assumption) rfl ?_
  rw [pm_lt_eq] at h
  generalize pm_w I 127 8 (I 127 5) = I1 at h ⊢
  refine al0 c239_8 ?_
  refine cv1 q239_9 (d224 hw rfl) rfl ?_
  refine r_ifeq (t := 19) c239_12 rfl (fun h2 => ?_) (fun h2 => ?_)
  · rw [if_neg (pm_bf h2)] at h
    refine al0 c239_19 ?_
    refine r_gi g239_20 (by first | rfl | assumption) rfl ?_
    refine r_bi c239_23 kB10 ?_
    refine r_isub c239_25 ?_
    cases h
    exact r_ri c239_26 rt239 rfl rfl
  · rw [if_pos (pm_bt h2)] at h
    refine il1 c239_15 ?_
    refine r_go (t := 26) c239_16 rfl ?_
    cases h
    exact r_ri c239_26 rt239 rfl rfl
def f221_44  : Nat → Int32 → (Nat → Nat → Int32) → (Nat → Nat → Int64) → Option (Int32 × (Nat → Nat → Int32) × (Nat → Nat → Int64))
  | 0, _, _, _ => none
  | fu + 1, y2, I, J => (if (v224  I) = true then (f225  I J).bind (fun (ov11, I12, J13) => (if ov11 = true then (f227 6 I12 J13).bind (fun (ov25, I26, J27) => (f229  I26 J27).bind (fun (ov29, I30, J31) => (if ov25 = true then (if y2 = 60 then (f232 3 (I30 127 4) I30 J31).bind (fun (ov35, I36, J37) => (if (v224  I36) = true then (if ov25 = true then pm_lt (pm_w I36 127 4 ((I36 127 4) + 7)) (fun I62 => (if ov25 = true then (f234  I62 J37).bind (fun (ov72, I73, J74) => (f238 59 I73 J74).bind (fun (ov76, I77, J78) => f221_44 fu (y2 + 1) I77 J78)) else (f237 ov29 I62 J37).bind (fun (ov64, I65, J66) => (f238 59 I65 J66).bind (fun (ov68, I69, J70) => f221_44 fu (y2 + 1) I69 J70)))) else (f233  I36 J37).bind (fun (ov41, I42, J43) => (if ov25 = true then (f234  I42 J43).bind (fun (ov54, I55, J56) => (f238 59 I55 J56).bind (fun (ov58, I59, J60) => f221_44 fu (y2 + 1) I59 J60)) else (f237 ov29 I42 J43).bind (fun (ov46, I47, J48) => (f238 59 I47 J48).bind (fun (ov50, I51, J52) => f221_44 fu (y2 + 1) I51 J52))))) else (f239 (I36 127 14) I36 J37).bind (fun (ov80, I81, J82) => (if (I81 127 5) = (-1) then (f217  I81 J82).bind (fun (ov85, I86, J87) => some (ov80, I86, J87)) else some (ov80, I81, J82))))) else (f231 2 I30 J31).bind (fun (ov89, I90, J91) => (if ov29 = ov89 then (if (I90 127 14) = 8 then (f232 3 (I90 127 4) I90 J91).bind (fun (ov255, I256, J257) => (if (v224  I256) = true then (if ov25 = true then pm_lt (pm_w I256 127 4 ((I256 127 4) + 7)) (fun I282 => (if ov25 = true then (f234  I282 J257).bind (fun (ov292, I293, J294) => (f238 59 I293 J294).bind (fun (ov296, I297, J298) => f221_44 fu (y2 + 1) I297 J298)) else (f237 ov29 I282 J257).bind (fun (ov284, I285, J286) => (f238 59 I285 J286).bind (fun (ov288, I289, J290) => f221_44 fu (y2 + 1) I289 J290)))) else (f233  I256 J257).bind (fun (ov261, I262, J263) => (if ov25 = true then (f234  I262 J263).bind (fun (ov274, I275, J276) => (f238 59 I275 J276).bind (fun (ov278, I279, J280) => f221_44 fu (y2 + 1) I279 J280)) else (f237 ov29 I262 J263).bind (fun (ov266, I267, J268) => (f238 59 I267 J268).bind (fun (ov270, I271, J272) => f221_44 fu (y2 + 1) I271 J272))))) else (f239 (I256 127 14) I256 J257).bind (fun (ov300, I301, J302) => (if (I301 127 5) = (-1) then (f217  I301 J302).bind (fun (ov305, I306, J307) => some (ov300, I306, J307)) else some (ov300, I301, J302))))) else (f231 4 I90 J91).bind (fun (ov309, I310, J311) => (if ov29 = ov309 then (if (I310 127 15) = 5 then (f232 3 (I310 127 4) I310 J311).bind (fun (ov415, I416, J417) => (if (v224  I416) = true then (if ov25 = true then pm_lt (pm_w I416 127 4 ((I416 127 4) + 7)) (fun I442 => (if ov25 = true then (f234  I442 J417).bind (fun (ov452, I453, J454) => (f238 59 I453 J454).bind (fun (ov456, I457, J458) => f221_44 fu (y2 + 1) I457 J458)) else (f237 ov29 I442 J417).bind (fun (ov444, I445, J446) => (f238 59 I445 J446).bind (fun (ov448, I449, J450) => f221_44 fu (y2 + 1) I449 J450)))) else (f233  I416 J417).bind (fun (ov421, I422, J423) => (if ov25 = true then (f234  I422 J423).bind (fun (ov434, I435, J436) => (f238 59 I435 J436).bind (fun (ov438, I439, J440) => f221_44 fu (y2 + 1) I439 J440)) else (f237 ov29 I422 J423).bind (fun (ov426, I427, J428) => (f238 59 I427 J428).bind (fun (ov430, I431, J432) => f221_44 fu (y2 + 1) I431 J432))))) else (f239 (I416 127 14) I416 J417).bind (fun (ov460, I461, J462) => (if (I461 127 5) = (-1) then (f217  I461 J462).bind (fun (ov465, I466, J467) => some (ov460, I466, J467)) else some (ov460, I461, J462))))) else (if (v224  I310) = true then (if ov25 = true then pm_lt (pm_w I310 127 4 ((I310 127 4) + 7)) (fun I388 => (if ov25 = true then (f234  I388 J311).bind (fun (ov398, I399, J400) => (f238 59 I399 J400).bind (fun (ov402, I403, J404) => f221_44 fu (y2 + 1) I403 J404)) else (f237 ov29 I388 J311).bind (fun (ov390, I391, J392) => (f238 59 I391 J392).bind (fun (ov394, I395, J396) => f221_44 fu (y2 + 1) I395 J396)))) else (f233  I310 J311).bind (fun (ov367, I368, J369) => (if ov25 = true then (f234  I368 J369).bind (fun (ov380, I381, J382) => (f238 59 I381 J382).bind (fun (ov384, I385, J386) => f221_44 fu (y2 + 1) I385 J386)) else (f237 ov29 I368 J369).bind (fun (ov372, I373, J374) => (f238 59 I373 J374).bind (fun (ov376, I377, J378) => f221_44 fu (y2 + 1) I377 J378))))) else (f239 (I310 127 14) I310 J311).bind (fun (ov406, I407, J408) => (if (I407 127 5) = (-1) then (f217  I407 J408).bind (fun (ov411, I412, J413) => some (ov406, I412, J413)) else some (ov406, I407, J408))))) else (if (v224  I310) = true then (if ov25 = true then pm_lt (pm_w I310 127 4 ((I310 127 4) + 7)) (fun I337 => (if ov25 = true then (f234  I337 J311).bind (fun (ov347, I348, J349) => (f238 59 I348 J349).bind (fun (ov351, I352, J353) => f221_44 fu (y2 + 1) I352 J353)) else (f237 ov29 I337 J311).bind (fun (ov339, I340, J341) => (f238 59 I340 J341).bind (fun (ov343, I344, J345) => f221_44 fu (y2 + 1) I344 J345)))) else (f233  I310 J311).bind (fun (ov316, I317, J318) => (if ov25 = true then (f234  I317 J318).bind (fun (ov329, I330, J331) => (f238 59 I330 J331).bind (fun (ov333, I334, J335) => f221_44 fu (y2 + 1) I334 J335)) else (f237 ov29 I317 J318).bind (fun (ov321, I322, J323) => (f238 59 I322 J323).bind (fun (ov325, I326, J327) => f221_44 fu (y2 + 1) I326 J327))))) else (f239 (I310 127 14) I310 J311).bind (fun (ov355, I356, J357) => (if (I356 127 5) = (-1) then (f217  I356 J357).bind (fun (ov360, I361, J362) => some (ov355, I361, J362)) else some (ov355, I356, J357))))))) else (f231 4 I90 J91).bind (fun (ov94, I95, J96) => (if ov29 = ov94 then (if (I95 127 15) = 5 then (f232 3 (I95 127 4) I95 J96).bind (fun (ov200, I201, J202) => (if (v224  I201) = true then (if ov25 = true then pm_lt (pm_w I201 127 4 ((I201 127 4) + 7)) (fun I227 => (if ov25 = true then (f234  I227 J202).bind (fun (ov237, I238, J239) => (f238 59 I238 J239).bind (fun (ov241, I242, J243) => f221_44 fu (y2 + 1) I242 J243)) else (f237 ov29 I227 J202).bind (fun (ov229, I230, J231) => (f238 59 I230 J231).bind (fun (ov233, I234, J235) => f221_44 fu (y2 + 1) I234 J235)))) else (f233  I201 J202).bind (fun (ov206, I207, J208) => (if ov25 = true then (f234  I207 J208).bind (fun (ov219, I220, J221) => (f238 59 I220 J221).bind (fun (ov223, I224, J225) => f221_44 fu (y2 + 1) I224 J225)) else (f237 ov29 I207 J208).bind (fun (ov211, I212, J213) => (f238 59 I212 J213).bind (fun (ov215, I216, J217) => f221_44 fu (y2 + 1) I216 J217))))) else (f239 (I201 127 14) I201 J202).bind (fun (ov245, I246, J247) => (if (I246 127 5) = (-1) then (f217  I246 J247).bind (fun (ov250, I251, J252) => some (ov245, I251, J252)) else some (ov245, I246, J247))))) else (if (v224  I95) = true then (if ov25 = true then pm_lt (pm_w I95 127 4 ((I95 127 4) + 7)) (fun I173 => (if ov25 = true then (f234  I173 J96).bind (fun (ov183, I184, J185) => (f238 59 I184 J185).bind (fun (ov187, I188, J189) => f221_44 fu (y2 + 1) I188 J189)) else (f237 ov29 I173 J96).bind (fun (ov175, I176, J177) => (f238 59 I176 J177).bind (fun (ov179, I180, J181) => f221_44 fu (y2 + 1) I180 J181)))) else (f233  I95 J96).bind (fun (ov152, I153, J154) => (if ov25 = true then (f234  I153 J154).bind (fun (ov165, I166, J167) => (f238 59 I166 J167).bind (fun (ov169, I170, J171) => f221_44 fu (y2 + 1) I170 J171)) else (f237 ov29 I153 J154).bind (fun (ov157, I158, J159) => (f238 59 I158 J159).bind (fun (ov161, I162, J163) => f221_44 fu (y2 + 1) I162 J163))))) else (f239 (I95 127 14) I95 J96).bind (fun (ov191, I192, J193) => (if (I192 127 5) = (-1) then (f217  I192 J193).bind (fun (ov196, I197, J198) => some (ov191, I197, J198)) else some (ov191, I192, J193))))) else (if (v224  I95) = true then (if ov25 = true then pm_lt (pm_w I95 127 4 ((I95 127 4) + 7)) (fun I122 => (if ov25 = true then (f234  I122 J96).bind (fun (ov132, I133, J134) => (f238 59 I133 J134).bind (fun (ov136, I137, J138) => f221_44 fu (y2 + 1) I137 J138)) else (f237 ov29 I122 J96).bind (fun (ov124, I125, J126) => (f238 59 I125 J126).bind (fun (ov128, I129, J130) => f221_44 fu (y2 + 1) I129 J130)))) else (f233  I95 J96).bind (fun (ov101, I102, J103) => (if ov25 = true then (f234  I102 J103).bind (fun (ov114, I115, J116) => (f238 59 I115 J116).bind (fun (ov118, I119, J120) => f221_44 fu (y2 + 1) I119 J120)) else (f237 ov29 I102 J103).bind (fun (ov106, I107, J108) => (f238 59 I107 J108).bind (fun (ov110, I111, J112) => f221_44 fu (y2 + 1) I111 J112))))) else (f239 (I95 127 14) I95 J96).bind (fun (ov140, I141, J142) => (if (I141 127 5) = (-1) then (f217  I141 J142).bind (fun (ov145, I146, J147) => some (ov140, I146, J147)) else some (ov140, I141, J142))))))))) else (f230 ov29 I30 J31).bind (fun (ov469, I470, J471) => (if ov469 = true then (if y2 = 60 then (f232 3 (I470 127 4) I470 J471).bind (fun (ov475, I476, J477) => (if (v224  I476) = true then (if ov25 = true then pm_lt (pm_w I476 127 4 ((I476 127 4) + 7)) (fun I502 => (if ov25 = true then (f234  I502 J477).bind (fun (ov512, I513, J514) => (f238 59 I513 J514).bind (fun (ov516, I517, J518) => f221_44 fu (y2 + 1) I517 J518)) else (f237 ov29 I502 J477).bind (fun (ov504, I505, J506) => (f238 59 I505 J506).bind (fun (ov508, I509, J510) => f221_44 fu (y2 + 1) I509 J510)))) else (f233  I476 J477).bind (fun (ov481, I482, J483) => (if ov25 = true then (f234  I482 J483).bind (fun (ov494, I495, J496) => (f238 59 I495 J496).bind (fun (ov498, I499, J500) => f221_44 fu (y2 + 1) I499 J500)) else (f237 ov29 I482 J483).bind (fun (ov486, I487, J488) => (f238 59 I487 J488).bind (fun (ov490, I491, J492) => f221_44 fu (y2 + 1) I491 J492))))) else (f239 (I476 127 14) I476 J477).bind (fun (ov520, I521, J522) => (if (I521 127 5) = (-1) then (f217  I521 J522).bind (fun (ov525, I526, J527) => some (ov520, I526, J527)) else some (ov520, I521, J522))))) else (f231 2 I470 J471).bind (fun (ov529, I530, J531) => (if ov29 = ov529 then (if (I530 127 14) = 8 then (f232 3 (I530 127 4) I530 J531).bind (fun (ov695, I696, J697) => (if (v224  I696) = true then (if ov25 = true then pm_lt (pm_w I696 127 4 ((I696 127 4) + 7)) (fun I722 => (if ov25 = true then (f234  I722 J697).bind (fun (ov732, I733, J734) => (f238 59 I733 J734).bind (fun (ov736, I737, J738) => f221_44 fu (y2 + 1) I737 J738)) else (f237 ov29 I722 J697).bind (fun (ov724, I725, J726) => (f238 59 I725 J726).bind (fun (ov728, I729, J730) => f221_44 fu (y2 + 1) I729 J730)))) else (f233  I696 J697).bind (fun (ov701, I702, J703) => (if ov25 = true then (f234  I702 J703).bind (fun (ov714, I715, J716) => (f238 59 I715 J716).bind (fun (ov718, I719, J720) => f221_44 fu (y2 + 1) I719 J720)) else (f237 ov29 I702 J703).bind (fun (ov706, I707, J708) => (f238 59 I707 J708).bind (fun (ov710, I711, J712) => f221_44 fu (y2 + 1) I711 J712))))) else (f239 (I696 127 14) I696 J697).bind (fun (ov740, I741, J742) => (if (I741 127 5) = (-1) then (f217  I741 J742).bind (fun (ov745, I746, J747) => some (ov740, I746, J747)) else some (ov740, I741, J742))))) else (f231 4 I530 J531).bind (fun (ov749, I750, J751) => (if ov29 = ov749 then (if (I750 127 15) = 5 then (f232 3 (I750 127 4) I750 J751).bind (fun (ov855, I856, J857) => (if (v224  I856) = true then (if ov25 = true then pm_lt (pm_w I856 127 4 ((I856 127 4) + 7)) (fun I882 => (if ov25 = true then (f234  I882 J857).bind (fun (ov892, I893, J894) => (f238 59 I893 J894).bind (fun (ov896, I897, J898) => f221_44 fu (y2 + 1) I897 J898)) else (f237 ov29 I882 J857).bind (fun (ov884, I885, J886) => (f238 59 I885 J886).bind (fun (ov888, I889, J890) => f221_44 fu (y2 + 1) I889 J890)))) else (f233  I856 J857).bind (fun (ov861, I862, J863) => (if ov25 = true then (f234  I862 J863).bind (fun (ov874, I875, J876) => (f238 59 I875 J876).bind (fun (ov878, I879, J880) => f221_44 fu (y2 + 1) I879 J880)) else (f237 ov29 I862 J863).bind (fun (ov866, I867, J868) => (f238 59 I867 J868).bind (fun (ov870, I871, J872) => f221_44 fu (y2 + 1) I871 J872))))) else (f239 (I856 127 14) I856 J857).bind (fun (ov900, I901, J902) => (if (I901 127 5) = (-1) then (f217  I901 J902).bind (fun (ov905, I906, J907) => some (ov900, I906, J907)) else some (ov900, I901, J902))))) else (if (v224  I750) = true then (if ov25 = true then pm_lt (pm_w I750 127 4 ((I750 127 4) + 7)) (fun I828 => (if ov25 = true then (f234  I828 J751).bind (fun (ov838, I839, J840) => (f238 59 I839 J840).bind (fun (ov842, I843, J844) => f221_44 fu (y2 + 1) I843 J844)) else (f237 ov29 I828 J751).bind (fun (ov830, I831, J832) => (f238 59 I831 J832).bind (fun (ov834, I835, J836) => f221_44 fu (y2 + 1) I835 J836)))) else (f233  I750 J751).bind (fun (ov807, I808, J809) => (if ov25 = true then (f234  I808 J809).bind (fun (ov820, I821, J822) => (f238 59 I821 J822).bind (fun (ov824, I825, J826) => f221_44 fu (y2 + 1) I825 J826)) else (f237 ov29 I808 J809).bind (fun (ov812, I813, J814) => (f238 59 I813 J814).bind (fun (ov816, I817, J818) => f221_44 fu (y2 + 1) I817 J818))))) else (f239 (I750 127 14) I750 J751).bind (fun (ov846, I847, J848) => (if (I847 127 5) = (-1) then (f217  I847 J848).bind (fun (ov851, I852, J853) => some (ov846, I852, J853)) else some (ov846, I847, J848))))) else (if (v224  I750) = true then (if ov25 = true then pm_lt (pm_w I750 127 4 ((I750 127 4) + 7)) (fun I777 => (if ov25 = true then (f234  I777 J751).bind (fun (ov787, I788, J789) => (f238 59 I788 J789).bind (fun (ov791, I792, J793) => f221_44 fu (y2 + 1) I792 J793)) else (f237 ov29 I777 J751).bind (fun (ov779, I780, J781) => (f238 59 I780 J781).bind (fun (ov783, I784, J785) => f221_44 fu (y2 + 1) I784 J785)))) else (f233  I750 J751).bind (fun (ov756, I757, J758) => (if ov25 = true then (f234  I757 J758).bind (fun (ov769, I770, J771) => (f238 59 I770 J771).bind (fun (ov773, I774, J775) => f221_44 fu (y2 + 1) I774 J775)) else (f237 ov29 I757 J758).bind (fun (ov761, I762, J763) => (f238 59 I762 J763).bind (fun (ov765, I766, J767) => f221_44 fu (y2 + 1) I766 J767))))) else (f239 (I750 127 14) I750 J751).bind (fun (ov795, I796, J797) => (if (I796 127 5) = (-1) then (f217  I796 J797).bind (fun (ov800, I801, J802) => some (ov795, I801, J802)) else some (ov795, I796, J797))))))) else (f231 4 I530 J531).bind (fun (ov534, I535, J536) => (if ov29 = ov534 then (if (I535 127 15) = 5 then (f232 3 (I535 127 4) I535 J536).bind (fun (ov640, I641, J642) => (if (v224  I641) = true then (if ov25 = true then pm_lt (pm_w I641 127 4 ((I641 127 4) + 7)) (fun I667 => (if ov25 = true then (f234  I667 J642).bind (fun (ov677, I678, J679) => (f238 59 I678 J679).bind (fun (ov681, I682, J683) => f221_44 fu (y2 + 1) I682 J683)) else (f237 ov29 I667 J642).bind (fun (ov669, I670, J671) => (f238 59 I670 J671).bind (fun (ov673, I674, J675) => f221_44 fu (y2 + 1) I674 J675)))) else (f233  I641 J642).bind (fun (ov646, I647, J648) => (if ov25 = true then (f234  I647 J648).bind (fun (ov659, I660, J661) => (f238 59 I660 J661).bind (fun (ov663, I664, J665) => f221_44 fu (y2 + 1) I664 J665)) else (f237 ov29 I647 J648).bind (fun (ov651, I652, J653) => (f238 59 I652 J653).bind (fun (ov655, I656, J657) => f221_44 fu (y2 + 1) I656 J657))))) else (f239 (I641 127 14) I641 J642).bind (fun (ov685, I686, J687) => (if (I686 127 5) = (-1) then (f217  I686 J687).bind (fun (ov690, I691, J692) => some (ov685, I691, J692)) else some (ov685, I686, J687))))) else (if (v224  I535) = true then (if ov25 = true then pm_lt (pm_w I535 127 4 ((I535 127 4) + 7)) (fun I613 => (if ov25 = true then (f234  I613 J536).bind (fun (ov623, I624, J625) => (f238 59 I624 J625).bind (fun (ov627, I628, J629) => f221_44 fu (y2 + 1) I628 J629)) else (f237 ov29 I613 J536).bind (fun (ov615, I616, J617) => (f238 59 I616 J617).bind (fun (ov619, I620, J621) => f221_44 fu (y2 + 1) I620 J621)))) else (f233  I535 J536).bind (fun (ov592, I593, J594) => (if ov25 = true then (f234  I593 J594).bind (fun (ov605, I606, J607) => (f238 59 I606 J607).bind (fun (ov609, I610, J611) => f221_44 fu (y2 + 1) I610 J611)) else (f237 ov29 I593 J594).bind (fun (ov597, I598, J599) => (f238 59 I598 J599).bind (fun (ov601, I602, J603) => f221_44 fu (y2 + 1) I602 J603))))) else (f239 (I535 127 14) I535 J536).bind (fun (ov631, I632, J633) => (if (I632 127 5) = (-1) then (f217  I632 J633).bind (fun (ov636, I637, J638) => some (ov631, I637, J638)) else some (ov631, I632, J633))))) else (if (v224  I535) = true then (if ov25 = true then pm_lt (pm_w I535 127 4 ((I535 127 4) + 7)) (fun I562 => (if ov25 = true then (f234  I562 J536).bind (fun (ov572, I573, J574) => (f238 59 I573 J574).bind (fun (ov576, I577, J578) => f221_44 fu (y2 + 1) I577 J578)) else (f237 ov29 I562 J536).bind (fun (ov564, I565, J566) => (f238 59 I565 J566).bind (fun (ov568, I569, J570) => f221_44 fu (y2 + 1) I569 J570)))) else (f233  I535 J536).bind (fun (ov541, I542, J543) => (if ov25 = true then (f234  I542 J543).bind (fun (ov554, I555, J556) => (f238 59 I555 J556).bind (fun (ov558, I559, J560) => f221_44 fu (y2 + 1) I559 J560)) else (f237 ov29 I542 J543).bind (fun (ov546, I547, J548) => (f238 59 I547 J548).bind (fun (ov550, I551, J552) => f221_44 fu (y2 + 1) I551 J552))))) else (f239 (I535 127 14) I535 J536).bind (fun (ov580, I581, J582) => (if (I581 127 5) = (-1) then (f217  I581 J582).bind (fun (ov585, I586, J587) => some (ov580, I586, J587)) else some (ov580, I581, J582))))))))) else (f232 1 (I470 127 4) I470 J471).bind (fun (ov909, I910, J911) => (if (v224  I910) = true then (if ov25 = true then pm_lt (pm_w I910 127 4 ((I910 127 4) + 7)) (fun I936 => (if ov25 = true then (f234  I936 J911).bind (fun (ov946, I947, J948) => (f238 59 I947 J948).bind (fun (ov950, I951, J952) => f221_44 fu (y2 + 1) I951 J952)) else (f237 ov29 I936 J911).bind (fun (ov938, I939, J940) => (f238 59 I939 J940).bind (fun (ov942, I943, J944) => f221_44 fu (y2 + 1) I943 J944)))) else (f233  I910 J911).bind (fun (ov915, I916, J917) => (if ov25 = true then (f234  I916 J917).bind (fun (ov928, I929, J930) => (f238 59 I929 J930).bind (fun (ov932, I933, J934) => f221_44 fu (y2 + 1) I933 J934)) else (f237 ov29 I916 J917).bind (fun (ov920, I921, J922) => (f238 59 I921 J922).bind (fun (ov924, I925, J926) => f221_44 fu (y2 + 1) I925 J926))))) else (f239 (I910 127 14) I910 J911).bind (fun (ov954, I955, J956) => (if (I955 127 5) = (-1) then (f217  I955 J956).bind (fun (ov959, I960, J961) => some (ov954, I960, J961)) else some (ov954, I955, J956)))))))))) else (f239 (I12 127 14) I12 J13).bind (fun (ov16, I17, J18) => (if (I17 127 5) = (-1) then (f217  I17 J18).bind (fun (ov21, I22, J23) => some (ov16, I22, J23)) else some (ov16, I17, J18))))) else (f239 (I 127 14) I J).bind (fun (ov2, I3, J4) => (if (I3 127 5) = (-1) then (f217  I3 J4).bind (fun (ov7, I8, J9) => some (ov2, I8, J9)) else some (ov2, I3, J4))))
def f221 (x1 : Int32) (I : Nat → Nat → Int32) (J : Nat → Nat → Int64) : Option (Int32 × (Nat → Nat → Int32) × (Nat → Nat → Int64)) := pm_lt (pm_w I 127 0 0) (fun I1 => (if x1.toInt < 0 then (f222 0 1 1 I1 J).bind (fun (ov3, I4, J5) => (if ov3 = true then (f223 x1 I4 J5).bind (fun (ov8, I9, J10) => (f216  I9 J10).bind (fun (ov12, I13, J14) => f221_44 pm_FU 0 I13 J14)) else some (0, I4, J5))) else (if (I1 127 2).toInt < x1.toInt then (f222 0 1 1 I1 J).bind (fun (ov17, I18, J19) => (if ov17 = true then (f223 x1 I18 J19).bind (fun (ov22, I23, J24) => (f216  I23 J24).bind (fun (ov26, I27, J28) => f221_44 pm_FU 0 I27 J28)) else some (0, I18, J19))) else (f222 1 1 1 I1 J).bind (fun (ov30, I31, J32) => (if ov30 = true then (f223 x1 I31 J32).bind (fun (ov35, I36, J37) => (f216  I36 J37).bind (fun (ov39, I40, J41) => f221_44 pm_FU 0 I40 J41)) else some (0, I31, J32))))))
theorem d221_44 {X : (Nat → Int32) × Nat} {d : Nat} {P : Nat → Nat → Value} {e r k r2 k2 : Nat}  (hw : pm_W P r k r2 k2)  : ∀ (fu : Nat) {y2 : Int32} {I : Nat → Nat → Int32} {J : Nat → Nat → Int64} {q : Int32 × (Nat → Nat → Int32) × (Nat → Nat → Int64)} {z1 : Value} {z3 : Value} {z4 : Value} (h : f221_44 fu y2 I J = some q), pm_Fx X (d + 7) 221 44 [.ref 127, z1, .int y2, z3, z4] [] (I, J, P, pm_T0, e) (.inl (some (.int q.1))) (q.2.1, q.2.2, P, pm_T0, e) := by
  obtain ⟨hp, hw1, hw2, hw3, hw4, hw5, hw6, hw7, hw8, hw9, hw10, hw11⟩ := id hw
  have hwa := hw5.1
  have hwb := hw6.1
  have hwc := hw7.1
  have hwd := hw8.1
  intro fu
  induction fu with
  | zero => intro y2 I J q z1 z3 z4 h; cases h
  | succ fu ih =>
    intro y2 I J q z1 z3 z4 h
    rw [f221_44] at h
    refine al0 c221_44 ?_
    refine cv1 q221_45 (d224 hw rfl) rfl ?_
    refine r_ifeq (t := 208) c221_48 rfl (fun h1 => ?_) (fun h1 => ?_)
    · rw [if_neg (pm_bf h1)] at h
      refine al0 c221_208 ?_
      refine al0 c221_209 ?_
      refine r_gi g221_210 (by first | rfl | assumption) rfl ?_
      obtain ⟨⟨ov2, I3, J4⟩, e5, h⟩ := pm_bd_sp h
      dsimp only at h
      refine cv2 q221_213 (v := .int ov2) (μ1 := (I3, J4, P, pm_T0, e)) (d239 hw e5) rfl ?_
      refine is3 c221_216 rfl ?_
      refine al0 c221_217 ?_
      refine r_gi g221_218 (by first | rfl | assumption) rfl ?_
      refine r_ic c221_221 kIm1 ?_
      refine r_icne (t := 229) c221_222 rfl (fun h6 => ?_) (fun h6 => ?_)
      · rw [if_neg h6] at h
        refine il3 c221_229 ?_
        cases h
        exact r_ri c221_230 rt221 rfl rfl
      · rw [if_pos h6] at h
        refine al0 c221_225 ?_
        obtain ⟨⟨ov7, I8, J9⟩, e10, h⟩ := pm_bd_sp h
        dsimp only at h
        refine cz1 q221_226 (μ1 := (I8, J9, P, pm_T0, e)) (d217 hw e10) rfl ?_
        refine il3 c221_229 ?_
        cases h
        exact r_ri c221_230 rt221 rfl rfl
    · rw [if_pos (pm_bt h1)] at h
      refine al0 c221_51 ?_
      obtain ⟨⟨ov11, I12, J13⟩, e14, h⟩ := pm_bd_sp h
      dsimp only at h
      refine cv1 q221_52 (v := .int (pm_bi ov11)) (μ1 := (I12, J13, P, pm_T0, e)) (d225 hw e14) rfl ?_
      refine r_ifeq (t := 208) c221_55 rfl (fun h15 => ?_) (fun h15 => ?_)
      · rw [if_neg (pm_bf h15)] at h
        refine al0 c221_208 ?_
        refine al0 c221_209 ?_
        refine r_gi g221_210 (by first | rfl | assumption) rfl ?_
        obtain ⟨⟨ov16, I17, J18⟩, e19, h⟩ := pm_bd_sp h
        dsimp only at h
        refine cv2 q221_213 (v := .int ov16) (μ1 := (I17, J18, P, pm_T0, e)) (d239 hw e19) rfl ?_
        refine is3 c221_216 rfl ?_
        refine al0 c221_217 ?_
        refine r_gi g221_218 (by first | rfl | assumption) rfl ?_
        refine r_ic c221_221 kIm1 ?_
        refine r_icne (t := 229) c221_222 rfl (fun h20 => ?_) (fun h20 => ?_)
        · rw [if_neg h20] at h
          refine il3 c221_229 ?_
          cases h
          exact r_ri c221_230 rt221 rfl rfl
        · rw [if_pos h20] at h
          refine al0 c221_225 ?_
          obtain ⟨⟨ov21, I22, J23⟩, e24, h⟩ := pm_bd_sp h
          dsimp only at h
          refine cz1 q221_226 (μ1 := (I22, J23, P, pm_T0, e)) (d217 hw e24) rfl ?_
          refine il3 c221_229 ?_
          cases h
          exact r_ri c221_230 rt221 rfl rfl
      · rw [if_pos (pm_bt h15)] at h
        refine al0 c221_58 ?_
        refine r_ks v221_59 ?_
        obtain ⟨⟨ov25, I26, J27⟩, e28, h⟩ := pm_bd_sp h
        dsimp only at h
        refine cv2 q221_61 (v := .int (pm_bi ov25)) (μ1 := (I26, J27, P, pm_T0, e)) (d227 hw (by first | rfl | assumption | decide) e28) rfl ?_
        refine is3 c221_64 rfl ?_
        refine al0 c221_65 ?_
        obtain ⟨⟨ov29, I30, J31⟩, e32, h⟩ := pm_bd_sp h
        dsimp only at h
        refine cv1 q221_66 (v := .int ov29) (μ1 := (I30, J31, P, pm_T0, e)) (d229 hw e32) rfl ?_
        refine is4 c221_69 rfl ?_
        refine il3 c221_71 ?_
        refine r_ifne (t := 95) c221_72 rfl (fun h33 => ?_) (fun h33 => ?_)
        · rw [if_pos (pm_bt h33)] at h
          refine il2 c221_95 ?_
          refine r_bi c221_96 kB60 ?_
          refine r_iceq (t := 138) c221_98 rfl (fun h34 => ?_) (fun h34 => ?_)
          · rw [if_pos h34] at h
            refine al0 c221_138 ?_
            refine r_ic c221_139 kI3 ?_
            refine al0 c221_140 ?_
            refine r_gi g221_141 (by first | rfl | assumption) rfl ?_
            obtain ⟨⟨ov35, I36, J37⟩, e38, h⟩ := pm_bd_sp h
            dsimp only at h
            refine cz3 q221_144 (μ1 := (I36, J37, P, pm_T0, e)) (d232 hw e38) rfl ?_
            refine al0 c221_147 ?_
            refine cv1 q221_148 (d224 hw rfl) rfl ?_
            refine r_ifne (t := 157) c221_151 rfl (fun h39 => ?_) (fun h39 => ?_)
            · rw [if_pos (pm_bt h39)] at h
              refine il3 c221_157 ?_
              refine r_ifeq (t := 175) c221_158 rfl (fun h40 => ?_) (fun h40 => ?_)
              · rw [if_neg (pm_bf h40)] at h
                refine al0 c221_175 ?_
                obtain ⟨⟨ov41, I42, J43⟩, e44, h⟩ := pm_bd_sp h
                dsimp only at h
                refine cz1 q221_176 (μ1 := (I42, J43, P, pm_T0, e)) (d233 hw e44) rfl ?_
                refine il3 c221_179 ?_
                refine r_ifeq (t := 190) c221_180 rfl (fun h45 => ?_) (fun h45 => ?_)
                · rw [if_neg (pm_bf h45)] at h
                  refine al0 c221_190 ?_
                  refine il4 c221_191 ?_
                  obtain ⟨⟨ov46, I47, J48⟩, e49, h⟩ := pm_bd_sp h
                  dsimp only at h
                  refine cz2 q221_193 (μ1 := (I47, J48, P, pm_T0, e)) (d237 hw e49) rfl ?_
                  refine al0 c221_196 ?_
                  refine r_bi c221_197 kB59 ?_
                  obtain ⟨⟨ov50, I51, J52⟩, e53, h⟩ := pm_bd_sp h
                  dsimp only at h
                  refine cz2 q221_199 (μ1 := (I51, J52, P, pm_T0, e)) (d238 hw e53) rfl ?_
                  refine ii2c c221_202 kI1 ?_
                  refine r_go (t := 44) c221_205 rfl ?_
                  exact ih h
                · rw [if_pos (pm_bt h45)] at h
                  refine al0 c221_183 ?_
                  obtain ⟨⟨ov54, I55, J56⟩, e57, h⟩ := pm_bd_sp h
                  dsimp only at h
                  refine cz1 q221_184 (μ1 := (I55, J56, P, pm_T0, e)) (d234 hw e57) rfl ?_
                  refine r_go (t := 196) c221_187 rfl ?_
                  refine al0 c221_196 ?_
                  refine r_bi c221_197 kB59 ?_
                  obtain ⟨⟨ov58, I59, J60⟩, e61, h⟩ := pm_bd_sp h
                  dsimp only at h
                  refine cz2 q221_199 (μ1 := (I59, J60, P, pm_T0, e)) (d238 hw e61) rfl ?_
                  refine ii2c c221_202 kI1 ?_
                  refine r_go (t := 44) c221_205 rfl ?_
                  exact ih h
              · rw [if_pos (pm_bt h40)] at h
                refine al0 c221_161 ?_
                refine r_dpr c221_162 ?_
                refine r_gi g221_163 (by first | rfl | assumption) rfl ?_
                refine r_bi c221_166 kB7 ?_
                refine r_iadd c221_168 ?_
                refine w_pi p221_169 (by first | rfl | assumption) rfl ?_
                rw [pm_lt_eq] at h
                generalize pm_w I36 127 4 ((I36 127 4) + 7) = I62 at h ⊢
                refine r_go (t := 179) c221_172 rfl ?_
                refine il3 c221_179 ?_
                refine r_ifeq (t := 190) c221_180 rfl (fun h63 => ?_) (fun h63 => ?_)
                · rw [if_neg (pm_bf h63)] at h
                  refine al0 c221_190 ?_
                  refine il4 c221_191 ?_
                  obtain ⟨⟨ov64, I65, J66⟩, e67, h⟩ := pm_bd_sp h
                  dsimp only at h
                  refine cz2 q221_193 (μ1 := (I65, J66, P, pm_T0, e)) (d237 hw e67) rfl ?_
                  refine al0 c221_196 ?_
                  refine r_bi c221_197 kB59 ?_
                  obtain ⟨⟨ov68, I69, J70⟩, e71, h⟩ := pm_bd_sp h
                  dsimp only at h
                  refine cz2 q221_199 (μ1 := (I69, J70, P, pm_T0, e)) (d238 hw e71) rfl ?_
                  refine ii2c c221_202 kI1 ?_
                  refine r_go (t := 44) c221_205 rfl ?_
                  exact ih h
                · rw [if_pos (pm_bt h63)] at h
                  refine al0 c221_183 ?_
                  obtain ⟨⟨ov72, I73, J74⟩, e75, h⟩ := pm_bd_sp h
                  dsimp only at h
                  refine cz1 q221_184 (μ1 := (I73, J74, P, pm_T0, e)) (d234 hw e75) rfl ?_
                  refine r_go (t := 196) c221_187 rfl ?_
                  refine al0 c221_196 ?_
                  refine r_bi c221_197 kB59 ?_
                  obtain ⟨⟨ov76, I77, J78⟩, e79, h⟩ := pm_bd_sp h
                  dsimp only at h
                  refine cz2 q221_199 (μ1 := (I77, J78, P, pm_T0, e)) (d238 hw e79) rfl ?_
                  refine ii2c c221_202 kI1 ?_
                  refine r_go (t := 44) c221_205 rfl ?_
                  exact ih h
            · rw [if_neg (pm_bf h39)] at h
              refine r_go (t := 208) c221_154 rfl ?_
              refine al0 c221_208 ?_
              refine al0 c221_209 ?_
              refine r_gi g221_210 (by first | rfl | assumption) rfl ?_
              obtain ⟨⟨ov80, I81, J82⟩, e83, h⟩ := pm_bd_sp h
              dsimp only at h
              refine cv2 q221_213 (v := .int ov80) (μ1 := (I81, J82, P, pm_T0, e)) (d239 hw e83) rfl ?_
              refine is3 c221_216 rfl ?_
              refine al0 c221_217 ?_
              refine r_gi g221_218 (by first | rfl | assumption) rfl ?_
              refine r_ic c221_221 kIm1 ?_
              refine r_icne (t := 229) c221_222 rfl (fun h84 => ?_) (fun h84 => ?_)
              · rw [if_neg h84] at h
                refine il3 c221_229 ?_
                cases h
                exact r_ri c221_230 rt221 rfl rfl
              · rw [if_pos h84] at h
                refine al0 c221_225 ?_
                obtain ⟨⟨ov85, I86, J87⟩, e88, h⟩ := pm_bd_sp h
                dsimp only at h
                refine cz1 q221_226 (μ1 := (I86, J87, P, pm_T0, e)) (d217 hw e88) rfl ?_
                refine il3 c221_229 ?_
                cases h
                exact r_ri c221_230 rt221 rfl rfl
          · rw [if_neg h34] at h
            refine il4 c221_101 ?_
            refine r_ks v221_103 ?_
            obtain ⟨⟨ov89, I90, J91⟩, e92, h⟩ := pm_bd_sp h
            dsimp only at h
            refine cv1 q221_105 (v := .int ov89) (μ1 := (I90, J91, P, pm_T0, e)) (d231 hw (by first | rfl | assumption | decide) e92) rfl ?_
            refine r_icne (t := 120) c221_108 rfl (fun h93 => ?_) (fun h93 => ?_)
            · rw [if_neg h93] at h
              refine il4 c221_120 ?_
              refine r_ks v221_122 ?_
              obtain ⟨⟨ov94, I95, J96⟩, e97, h⟩ := pm_bd_sp h
              dsimp only at h
              refine cv1 q221_124 (v := .int ov94) (μ1 := (I95, J96, P, pm_T0, e)) (d231 hw (by first | rfl | assumption | decide) e97) rfl ?_
              refine r_icne (t := 147) c221_127 rfl (fun h98 => ?_) (fun h98 => ?_)
              · rw [if_neg h98] at h
                refine al0 c221_147 ?_
                refine cv1 q221_148 (d224 hw rfl) rfl ?_
                refine r_ifne (t := 157) c221_151 rfl (fun h99 => ?_) (fun h99 => ?_)
                · rw [if_pos (pm_bt h99)] at h
                  refine il3 c221_157 ?_
                  refine r_ifeq (t := 175) c221_158 rfl (fun h100 => ?_) (fun h100 => ?_)
                  · rw [if_neg (pm_bf h100)] at h
                    refine al0 c221_175 ?_
                    obtain ⟨⟨ov101, I102, J103⟩, e104, h⟩ := pm_bd_sp h
                    dsimp only at h
                    refine cz1 q221_176 (μ1 := (I102, J103, P, pm_T0, e)) (d233 hw e104) rfl ?_
                    refine il3 c221_179 ?_
                    refine r_ifeq (t := 190) c221_180 rfl (fun h105 => ?_) (fun h105 => ?_)
                    · rw [if_neg (pm_bf h105)] at h
                      refine al0 c221_190 ?_
                      refine il4 c221_191 ?_
                      obtain ⟨⟨ov106, I107, J108⟩, e109, h⟩ := pm_bd_sp h
                      dsimp only at h
                      refine cz2 q221_193 (μ1 := (I107, J108, P, pm_T0, e)) (d237 hw e109) rfl ?_
                      refine al0 c221_196 ?_
                      refine r_bi c221_197 kB59 ?_
                      obtain ⟨⟨ov110, I111, J112⟩, e113, h⟩ := pm_bd_sp h
                      dsimp only at h
                      refine cz2 q221_199 (μ1 := (I111, J112, P, pm_T0, e)) (d238 hw e113) rfl ?_
                      refine ii2c c221_202 kI1 ?_
                      refine r_go (t := 44) c221_205 rfl ?_
                      exact ih h
                    · rw [if_pos (pm_bt h105)] at h
                      refine al0 c221_183 ?_
                      obtain ⟨⟨ov114, I115, J116⟩, e117, h⟩ := pm_bd_sp h
                      dsimp only at h
                      refine cz1 q221_184 (μ1 := (I115, J116, P, pm_T0, e)) (d234 hw e117) rfl ?_
                      refine r_go (t := 196) c221_187 rfl ?_
                      refine al0 c221_196 ?_
                      refine r_bi c221_197 kB59 ?_
                      obtain ⟨⟨ov118, I119, J120⟩, e121, h⟩ := pm_bd_sp h
                      dsimp only at h
                      refine cz2 q221_199 (μ1 := (I119, J120, P, pm_T0, e)) (d238 hw e121) rfl ?_
                      refine ii2c c221_202 kI1 ?_
                      refine r_go (t := 44) c221_205 rfl ?_
                      exact ih h
                  · rw [if_pos (pm_bt h100)] at h
                    refine al0 c221_161 ?_
                    refine r_dpr c221_162 ?_
                    refine r_gi g221_163 (by first | rfl | assumption) rfl ?_
                    refine r_bi c221_166 kB7 ?_
                    refine r_iadd c221_168 ?_
                    refine w_pi p221_169 (by first | rfl | assumption) rfl ?_
                    rw [pm_lt_eq] at h
                    generalize pm_w I95 127 4 ((I95 127 4) + 7) = I122 at h ⊢
                    refine r_go (t := 179) c221_172 rfl ?_
                    refine il3 c221_179 ?_
                    refine r_ifeq (t := 190) c221_180 rfl (fun h123 => ?_) (fun h123 => ?_)
                    · rw [if_neg (pm_bf h123)] at h
                      refine al0 c221_190 ?_
                      refine il4 c221_191 ?_
                      obtain ⟨⟨ov124, I125, J126⟩, e127, h⟩ := pm_bd_sp h
                      dsimp only at h
                      refine cz2 q221_193 (μ1 := (I125, J126, P, pm_T0, e)) (d237 hw e127) rfl ?_
                      refine al0 c221_196 ?_
                      refine r_bi c221_197 kB59 ?_
                      obtain ⟨⟨ov128, I129, J130⟩, e131, h⟩ := pm_bd_sp h
                      dsimp only at h
                      refine cz2 q221_199 (μ1 := (I129, J130, P, pm_T0, e)) (d238 hw e131) rfl ?_
                      refine ii2c c221_202 kI1 ?_
                      refine r_go (t := 44) c221_205 rfl ?_
                      exact ih h
                    · rw [if_pos (pm_bt h123)] at h
                      refine al0 c221_183 ?_
                      obtain ⟨⟨ov132, I133, J134⟩, e135, h⟩ := pm_bd_sp h
                      dsimp only at h
                      refine cz1 q221_184 (μ1 := (I133, J134, P, pm_T0, e)) (d234 hw e135) rfl ?_
                      refine r_go (t := 196) c221_187 rfl ?_
                      refine al0 c221_196 ?_
                      refine r_bi c221_197 kB59 ?_
                      obtain ⟨⟨ov136, I137, J138⟩, e139, h⟩ := pm_bd_sp h
                      dsimp only at h
                      refine cz2 q221_199 (μ1 := (I137, J138, P, pm_T0, e)) (d238 hw e139) rfl ?_
                      refine ii2c c221_202 kI1 ?_
                      refine r_go (t := 44) c221_205 rfl ?_
                      exact ih h
                · rw [if_neg (pm_bf h99)] at h
                  refine r_go (t := 208) c221_154 rfl ?_
                  refine al0 c221_208 ?_
                  refine al0 c221_209 ?_
                  refine r_gi g221_210 (by first | rfl | assumption) rfl ?_
                  obtain ⟨⟨ov140, I141, J142⟩, e143, h⟩ := pm_bd_sp h
                  dsimp only at h
                  refine cv2 q221_213 (v := .int ov140) (μ1 := (I141, J142, P, pm_T0, e)) (d239 hw e143) rfl ?_
                  refine is3 c221_216 rfl ?_
                  refine al0 c221_217 ?_
                  refine r_gi g221_218 (by first | rfl | assumption) rfl ?_
                  refine r_ic c221_221 kIm1 ?_
                  refine r_icne (t := 229) c221_222 rfl (fun h144 => ?_) (fun h144 => ?_)
                  · rw [if_neg h144] at h
                    refine il3 c221_229 ?_
                    cases h
                    exact r_ri c221_230 rt221 rfl rfl
                  · rw [if_pos h144] at h
                    refine al0 c221_225 ?_
                    obtain ⟨⟨ov145, I146, J147⟩, e148, h⟩ := pm_bd_sp h
                    dsimp only at h
                    refine cz1 q221_226 (μ1 := (I146, J147, P, pm_T0, e)) (d217 hw e148) rfl ?_
                    refine il3 c221_229 ?_
                    cases h
                    exact r_ri c221_230 rt221 rfl rfl
              · rw [if_pos h98] at h
                refine al0 c221_130 ?_
                refine r_gi g221_131 (by first | rfl | assumption) rfl ?_
                refine r_ic c221_134 kI5 ?_
                refine r_icne (t := 147) c221_135 rfl (fun h149 => ?_) (fun h149 => ?_)
                · rw [if_neg h149] at h
                  refine al0 c221_147 ?_
                  refine cv1 q221_148 (d224 hw rfl) rfl ?_
                  refine r_ifne (t := 157) c221_151 rfl (fun h150 => ?_) (fun h150 => ?_)
                  · rw [if_pos (pm_bt h150)] at h
                    refine il3 c221_157 ?_
                    refine r_ifeq (t := 175) c221_158 rfl (fun h151 => ?_) (fun h151 => ?_)
                    · rw [if_neg (pm_bf h151)] at h
                      refine al0 c221_175 ?_
                      obtain ⟨⟨ov152, I153, J154⟩, e155, h⟩ := pm_bd_sp h
                      dsimp only at h
                      refine cz1 q221_176 (μ1 := (I153, J154, P, pm_T0, e)) (d233 hw e155) rfl ?_
                      refine il3 c221_179 ?_
                      refine r_ifeq (t := 190) c221_180 rfl (fun h156 => ?_) (fun h156 => ?_)
                      · rw [if_neg (pm_bf h156)] at h
                        refine al0 c221_190 ?_
                        refine il4 c221_191 ?_
                        obtain ⟨⟨ov157, I158, J159⟩, e160, h⟩ := pm_bd_sp h
                        dsimp only at h
                        refine cz2 q221_193 (μ1 := (I158, J159, P, pm_T0, e)) (d237 hw e160) rfl ?_
                        refine al0 c221_196 ?_
                        refine r_bi c221_197 kB59 ?_
                        obtain ⟨⟨ov161, I162, J163⟩, e164, h⟩ := pm_bd_sp h
                        dsimp only at h
                        refine cz2 q221_199 (μ1 := (I162, J163, P, pm_T0, e)) (d238 hw e164) rfl ?_
                        refine ii2c c221_202 kI1 ?_
                        refine r_go (t := 44) c221_205 rfl ?_
                        exact ih h
                      · rw [if_pos (pm_bt h156)] at h
                        refine al0 c221_183 ?_
                        obtain ⟨⟨ov165, I166, J167⟩, e168, h⟩ := pm_bd_sp h
                        dsimp only at h
                        refine cz1 q221_184 (μ1 := (I166, J167, P, pm_T0, e)) (d234 hw e168) rfl ?_
                        refine r_go (t := 196) c221_187 rfl ?_
                        refine al0 c221_196 ?_
                        refine r_bi c221_197 kB59 ?_
                        obtain ⟨⟨ov169, I170, J171⟩, e172, h⟩ := pm_bd_sp h
                        dsimp only at h
                        refine cz2 q221_199 (μ1 := (I170, J171, P, pm_T0, e)) (d238 hw e172) rfl ?_
                        refine ii2c c221_202 kI1 ?_
                        refine r_go (t := 44) c221_205 rfl ?_
                        exact ih h
                    · rw [if_pos (pm_bt h151)] at h
                      refine al0 c221_161 ?_
                      refine r_dpr c221_162 ?_
                      refine r_gi g221_163 (by first | rfl | assumption) rfl ?_
                      refine r_bi c221_166 kB7 ?_
                      refine r_iadd c221_168 ?_
                      refine w_pi p221_169 (by first | rfl | assumption) rfl ?_
                      rw [pm_lt_eq] at h
                      generalize pm_w I95 127 4 ((I95 127 4) + 7) = I173 at h ⊢
                      refine r_go (t := 179) c221_172 rfl ?_
                      refine il3 c221_179 ?_
                      refine r_ifeq (t := 190) c221_180 rfl (fun h174 => ?_) (fun h174 => ?_)
                      · rw [if_neg (pm_bf h174)] at h
                        refine al0 c221_190 ?_
                        refine il4 c221_191 ?_
                        obtain ⟨⟨ov175, I176, J177⟩, e178, h⟩ := pm_bd_sp h
                        dsimp only at h
                        refine cz2 q221_193 (μ1 := (I176, J177, P, pm_T0, e)) (d237 hw e178) rfl ?_
                        refine al0 c221_196 ?_
                        refine r_bi c221_197 kB59 ?_
                        obtain ⟨⟨ov179, I180, J181⟩, e182, h⟩ := pm_bd_sp h
                        dsimp only at h
                        refine cz2 q221_199 (μ1 := (I180, J181, P, pm_T0, e)) (d238 hw e182) rfl ?_
                        refine ii2c c221_202 kI1 ?_
                        refine r_go (t := 44) c221_205 rfl ?_
                        exact ih h
                      · rw [if_pos (pm_bt h174)] at h
                        refine al0 c221_183 ?_
                        obtain ⟨⟨ov183, I184, J185⟩, e186, h⟩ := pm_bd_sp h
                        dsimp only at h
                        refine cz1 q221_184 (μ1 := (I184, J185, P, pm_T0, e)) (d234 hw e186) rfl ?_
                        refine r_go (t := 196) c221_187 rfl ?_
                        refine al0 c221_196 ?_
                        refine r_bi c221_197 kB59 ?_
                        obtain ⟨⟨ov187, I188, J189⟩, e190, h⟩ := pm_bd_sp h
                        dsimp only at h
                        refine cz2 q221_199 (μ1 := (I188, J189, P, pm_T0, e)) (d238 hw e190) rfl ?_
                        refine ii2c c221_202 kI1 ?_
                        refine r_go (t := 44) c221_205 rfl ?_
                        exact ih h
                  · rw [if_neg (pm_bf h150)] at h
                    refine r_go (t := 208) c221_154 rfl ?_
                    refine al0 c221_208 ?_
                    refine al0 c221_209 ?_
                    refine r_gi g221_210 (by first | rfl | assumption) rfl ?_
                    obtain ⟨⟨ov191, I192, J193⟩, e194, h⟩ := pm_bd_sp h
                    dsimp only at h
                    refine cv2 q221_213 (v := .int ov191) (μ1 := (I192, J193, P, pm_T0, e)) (d239 hw e194) rfl ?_
                    refine is3 c221_216 rfl ?_
                    refine al0 c221_217 ?_
                    refine r_gi g221_218 (by first | rfl | assumption) rfl ?_
                    refine r_ic c221_221 kIm1 ?_
                    refine r_icne (t := 229) c221_222 rfl (fun h195 => ?_) (fun h195 => ?_)
                    · rw [if_neg h195] at h
                      refine il3 c221_229 ?_
                      cases h
                      exact r_ri c221_230 rt221 rfl rfl
                    · rw [if_pos h195] at h
                      refine al0 c221_225 ?_
                      obtain ⟨⟨ov196, I197, J198⟩, e199, h⟩ := pm_bd_sp h
                      dsimp only at h
                      refine cz1 q221_226 (μ1 := (I197, J198, P, pm_T0, e)) (d217 hw e199) rfl ?_
                      refine il3 c221_229 ?_
                      cases h
                      exact r_ri c221_230 rt221 rfl rfl
                · rw [if_pos h149] at h
                  refine al0 c221_138 ?_
                  refine r_ic c221_139 kI3 ?_
                  refine al0 c221_140 ?_
                  refine r_gi g221_141 (by first | rfl | assumption) rfl ?_
                  obtain ⟨⟨ov200, I201, J202⟩, e203, h⟩ := pm_bd_sp h
                  dsimp only at h
                  refine cz3 q221_144 (μ1 := (I201, J202, P, pm_T0, e)) (d232 hw e203) rfl ?_
                  refine al0 c221_147 ?_
                  refine cv1 q221_148 (d224 hw rfl) rfl ?_
                  refine r_ifne (t := 157) c221_151 rfl (fun h204 => ?_) (fun h204 => ?_)
                  · rw [if_pos (pm_bt h204)] at h
                    refine il3 c221_157 ?_
                    refine r_ifeq (t := 175) c221_158 rfl (fun h205 => ?_) (fun h205 => ?_)
                    · rw [if_neg (pm_bf h205)] at h
                      refine al0 c221_175 ?_
                      obtain ⟨⟨ov206, I207, J208⟩, e209, h⟩ := pm_bd_sp h
                      dsimp only at h
                      refine cz1 q221_176 (μ1 := (I207, J208, P, pm_T0, e)) (d233 hw e209) rfl ?_
                      refine il3 c221_179 ?_
                      refine r_ifeq (t := 190) c221_180 rfl (fun h210 => ?_) (fun h210 => ?_)
                      · rw [if_neg (pm_bf h210)] at h
                        refine al0 c221_190 ?_
                        refine il4 c221_191 ?_
                        obtain ⟨⟨ov211, I212, J213⟩, e214, h⟩ := pm_bd_sp h
                        dsimp only at h
                        refine cz2 q221_193 (μ1 := (I212, J213, P, pm_T0, e)) (d237 hw e214) rfl ?_
                        refine al0 c221_196 ?_
                        refine r_bi c221_197 kB59 ?_
                        obtain ⟨⟨ov215, I216, J217⟩, e218, h⟩ := pm_bd_sp h
                        dsimp only at h
                        refine cz2 q221_199 (μ1 := (I216, J217, P, pm_T0, e)) (d238 hw e218) rfl ?_
                        refine ii2c c221_202 kI1 ?_
                        refine r_go (t := 44) c221_205 rfl ?_
                        exact ih h
                      · rw [if_pos (pm_bt h210)] at h
                        refine al0 c221_183 ?_
                        obtain ⟨⟨ov219, I220, J221⟩, e222, h⟩ := pm_bd_sp h
                        dsimp only at h
                        refine cz1 q221_184 (μ1 := (I220, J221, P, pm_T0, e)) (d234 hw e222) rfl ?_
                        refine r_go (t := 196) c221_187 rfl ?_
                        refine al0 c221_196 ?_
                        refine r_bi c221_197 kB59 ?_
                        obtain ⟨⟨ov223, I224, J225⟩, e226, h⟩ := pm_bd_sp h
                        dsimp only at h
                        refine cz2 q221_199 (μ1 := (I224, J225, P, pm_T0, e)) (d238 hw e226) rfl ?_
                        refine ii2c c221_202 kI1 ?_
                        refine r_go (t := 44) c221_205 rfl ?_
                        exact ih h
                    · rw [if_pos (pm_bt h205)] at h
                      refine al0 c221_161 ?_
                      refine r_dpr c221_162 ?_
                      refine r_gi g221_163 (by first | rfl | assumption) rfl ?_
                      refine r_bi c221_166 kB7 ?_
                      refine r_iadd c221_168 ?_
                      refine w_pi p221_169 (by first | rfl | assumption) rfl ?_
                      rw [pm_lt_eq] at h
                      generalize pm_w I201 127 4 ((I201 127 4) + 7) = I227 at h ⊢
                      refine r_go (t := 179) c221_172 rfl ?_
                      refine il3 c221_179 ?_
                      refine r_ifeq (t := 190) c221_180 rfl (fun h228 => ?_) (fun h228 => ?_)
                      · rw [if_neg (pm_bf h228)] at h
                        refine al0 c221_190 ?_
                        refine il4 c221_191 ?_
                        obtain ⟨⟨ov229, I230, J231⟩, e232, h⟩ := pm_bd_sp h
                        dsimp only at h
                        refine cz2 q221_193 (μ1 := (I230, J231, P, pm_T0, e)) (d237 hw e232) rfl ?_
                        refine al0 c221_196 ?_
                        refine r_bi c221_197 kB59 ?_
                        obtain ⟨⟨ov233, I234, J235⟩, e236, h⟩ := pm_bd_sp h
                        dsimp only at h
                        refine cz2 q221_199 (μ1 := (I234, J235, P, pm_T0, e)) (d238 hw e236) rfl ?_
                        refine ii2c c221_202 kI1 ?_
                        refine r_go (t := 44) c221_205 rfl ?_
                        exact ih h
                      · rw [if_pos (pm_bt h228)] at h
                        refine al0 c221_183 ?_
                        obtain ⟨⟨ov237, I238, J239⟩, e240, h⟩ := pm_bd_sp h
                        dsimp only at h
                        refine cz1 q221_184 (μ1 := (I238, J239, P, pm_T0, e)) (d234 hw e240) rfl ?_
                        refine r_go (t := 196) c221_187 rfl ?_
                        refine al0 c221_196 ?_
                        refine r_bi c221_197 kB59 ?_
                        obtain ⟨⟨ov241, I242, J243⟩, e244, h⟩ := pm_bd_sp h
                        dsimp only at h
                        refine cz2 q221_199 (μ1 := (I242, J243, P, pm_T0, e)) (d238 hw e244) rfl ?_
                        refine ii2c c221_202 kI1 ?_
                        refine r_go (t := 44) c221_205 rfl ?_
                        exact ih h
                  · rw [if_neg (pm_bf h204)] at h
                    refine r_go (t := 208) c221_154 rfl ?_
                    refine al0 c221_208 ?_
                    refine al0 c221_209 ?_
                    refine r_gi g221_210 (by first | rfl | assumption) rfl ?_
                    obtain ⟨⟨ov245, I246, J247⟩, e248, h⟩ := pm_bd_sp h
                    dsimp only at h
                    refine cv2 q221_213 (v := .int ov245) (μ1 := (I246, J247, P, pm_T0, e)) (d239 hw e248) rfl ?_
                    refine is3 c221_216 rfl ?_
                    refine al0 c221_217 ?_
                    refine r_gi g221_218 (by first | rfl | assumption) rfl ?_
                    refine r_ic c221_221 kIm1 ?_
                    refine r_icne (t := 229) c221_222 rfl (fun h249 => ?_) (fun h249 => ?_)
                    · rw [if_neg h249] at h
                      refine il3 c221_229 ?_
                      cases h
                      exact r_ri c221_230 rt221 rfl rfl
                    · rw [if_pos h249] at h
                      refine al0 c221_225 ?_
                      obtain ⟨⟨ov250, I251, J252⟩, e253, h⟩ := pm_bd_sp h
                      dsimp only at h
                      refine cz1 q221_226 (μ1 := (I251, J252, P, pm_T0, e)) (d217 hw e253) rfl ?_
                      refine il3 c221_229 ?_
                      cases h
                      exact r_ri c221_230 rt221 rfl rfl
            · rw [if_pos h93] at h
              refine al0 c221_111 ?_
              refine r_gi g221_112 (by first | rfl | assumption) rfl ?_
              refine r_bi c221_115 kB8 ?_
              refine r_iceq (t := 138) c221_117 rfl (fun h254 => ?_) (fun h254 => ?_)
              · rw [if_pos h254] at h
                refine al0 c221_138 ?_
                refine r_ic c221_139 kI3 ?_
                refine al0 c221_140 ?_
                refine r_gi g221_141 (by first | rfl | assumption) rfl ?_
                obtain ⟨⟨ov255, I256, J257⟩, e258, h⟩ := pm_bd_sp h
                dsimp only at h
                refine cz3 q221_144 (μ1 := (I256, J257, P, pm_T0, e)) (d232 hw e258) rfl ?_
                refine al0 c221_147 ?_
                refine cv1 q221_148 (d224 hw rfl) rfl ?_
                refine r_ifne (t := 157) c221_151 rfl (fun h259 => ?_) (fun h259 => ?_)
                · rw [if_pos (pm_bt h259)] at h
                  refine il3 c221_157 ?_
                  refine r_ifeq (t := 175) c221_158 rfl (fun h260 => ?_) (fun h260 => ?_)
                  · rw [if_neg (pm_bf h260)] at h
                    refine al0 c221_175 ?_
                    obtain ⟨⟨ov261, I262, J263⟩, e264, h⟩ := pm_bd_sp h
                    dsimp only at h
                    refine cz1 q221_176 (μ1 := (I262, J263, P, pm_T0, e)) (d233 hw e264) rfl ?_
                    refine il3 c221_179 ?_
                    refine r_ifeq (t := 190) c221_180 rfl (fun h265 => ?_) (fun h265 => ?_)
                    · rw [if_neg (pm_bf h265)] at h
                      refine al0 c221_190 ?_
                      refine il4 c221_191 ?_
                      obtain ⟨⟨ov266, I267, J268⟩, e269, h⟩ := pm_bd_sp h
                      dsimp only at h
                      refine cz2 q221_193 (μ1 := (I267, J268, P, pm_T0, e)) (d237 hw e269) rfl ?_
                      refine al0 c221_196 ?_
                      refine r_bi c221_197 kB59 ?_
                      obtain ⟨⟨ov270, I271, J272⟩, e273, h⟩ := pm_bd_sp h
                      dsimp only at h
                      refine cz2 q221_199 (μ1 := (I271, J272, P, pm_T0, e)) (d238 hw e273) rfl ?_
                      refine ii2c c221_202 kI1 ?_
                      refine r_go (t := 44) c221_205 rfl ?_
                      exact ih h
                    · rw [if_pos (pm_bt h265)] at h
                      refine al0 c221_183 ?_
                      obtain ⟨⟨ov274, I275, J276⟩, e277, h⟩ := pm_bd_sp h
                      dsimp only at h
                      refine cz1 q221_184 (μ1 := (I275, J276, P, pm_T0, e)) (d234 hw e277) rfl ?_
                      refine r_go (t := 196) c221_187 rfl ?_
                      refine al0 c221_196 ?_
                      refine r_bi c221_197 kB59 ?_
                      obtain ⟨⟨ov278, I279, J280⟩, e281, h⟩ := pm_bd_sp h
                      dsimp only at h
                      refine cz2 q221_199 (μ1 := (I279, J280, P, pm_T0, e)) (d238 hw e281) rfl ?_
                      refine ii2c c221_202 kI1 ?_
                      refine r_go (t := 44) c221_205 rfl ?_
                      exact ih h
                  · rw [if_pos (pm_bt h260)] at h
                    refine al0 c221_161 ?_
                    refine r_dpr c221_162 ?_
                    refine r_gi g221_163 (by first | rfl | assumption) rfl ?_
                    refine r_bi c221_166 kB7 ?_
                    refine r_iadd c221_168 ?_
                    refine w_pi p221_169 (by first | rfl | assumption) rfl ?_
                    rw [pm_lt_eq] at h
                    generalize pm_w I256 127 4 ((I256 127 4) + 7) = I282 at h ⊢
                    refine r_go (t := 179) c221_172 rfl ?_
                    refine il3 c221_179 ?_
                    refine r_ifeq (t := 190) c221_180 rfl (fun h283 => ?_) (fun h283 => ?_)
                    · rw [if_neg (pm_bf h283)] at h
                      refine al0 c221_190 ?_
                      refine il4 c221_191 ?_
                      obtain ⟨⟨ov284, I285, J286⟩, e287, h⟩ := pm_bd_sp h
                      dsimp only at h
                      refine cz2 q221_193 (μ1 := (I285, J286, P, pm_T0, e)) (d237 hw e287) rfl ?_
                      refine al0 c221_196 ?_
                      refine r_bi c221_197 kB59 ?_
                      obtain ⟨⟨ov288, I289, J290⟩, e291, h⟩ := pm_bd_sp h
                      dsimp only at h
                      refine cz2 q221_199 (μ1 := (I289, J290, P, pm_T0, e)) (d238 hw e291) rfl ?_
                      refine ii2c c221_202 kI1 ?_
                      refine r_go (t := 44) c221_205 rfl ?_
                      exact ih h
                    · rw [if_pos (pm_bt h283)] at h
                      refine al0 c221_183 ?_
                      obtain ⟨⟨ov292, I293, J294⟩, e295, h⟩ := pm_bd_sp h
                      dsimp only at h
                      refine cz1 q221_184 (μ1 := (I293, J294, P, pm_T0, e)) (d234 hw e295) rfl ?_
                      refine r_go (t := 196) c221_187 rfl ?_
                      refine al0 c221_196 ?_
                      refine r_bi c221_197 kB59 ?_
                      obtain ⟨⟨ov296, I297, J298⟩, e299, h⟩ := pm_bd_sp h
                      dsimp only at h
                      refine cz2 q221_199 (μ1 := (I297, J298, P, pm_T0, e)) (d238 hw e299) rfl ?_
                      refine ii2c c221_202 kI1 ?_
                      refine r_go (t := 44) c221_205 rfl ?_
                      exact ih h
                · rw [if_neg (pm_bf h259)] at h
                  refine r_go (t := 208) c221_154 rfl ?_
                  refine al0 c221_208 ?_
                  refine al0 c221_209 ?_
                  refine r_gi g221_210 (by first | rfl | assumption) rfl ?_
                  obtain ⟨⟨ov300, I301, J302⟩, e303, h⟩ := pm_bd_sp h
                  dsimp only at h
                  refine cv2 q221_213 (v := .int ov300) (μ1 := (I301, J302, P, pm_T0, e)) (d239 hw e303) rfl ?_
                  refine is3 c221_216 rfl ?_
                  refine al0 c221_217 ?_
                  refine r_gi g221_218 (by first | rfl | assumption) rfl ?_
                  refine r_ic c221_221 kIm1 ?_
                  refine r_icne (t := 229) c221_222 rfl (fun h304 => ?_) (fun h304 => ?_)
                  · rw [if_neg h304] at h
                    refine il3 c221_229 ?_
                    cases h
                    exact r_ri c221_230 rt221 rfl rfl
                  · rw [if_pos h304] at h
                    refine al0 c221_225 ?_
                    obtain ⟨⟨ov305, I306, J307⟩, e308, h⟩ := pm_bd_sp h
                    dsimp only at h
                    refine cz1 q221_226 (μ1 := (I306, J307, P, pm_T0, e)) (d217 hw e308) rfl ?_
                    refine il3 c221_229 ?_
                    cases h
                    exact r_ri c221_230 rt221 rfl rfl
              · rw [if_neg h254] at h
                refine il4 c221_120 ?_
                refine r_ks v221_122 ?_
                obtain ⟨⟨ov309, I310, J311⟩, e312, h⟩ := pm_bd_sp h
                dsimp only at h
                refine cv1 q221_124 (v := .int ov309) (μ1 := (I310, J311, P, pm_T0, e)) (d231 hw (by first | rfl | assumption | decide) e312) rfl ?_
                refine r_icne (t := 147) c221_127 rfl (fun h313 => ?_) (fun h313 => ?_)
                · rw [if_neg h313] at h
                  refine al0 c221_147 ?_
                  refine cv1 q221_148 (d224 hw rfl) rfl ?_
                  refine r_ifne (t := 157) c221_151 rfl (fun h314 => ?_) (fun h314 => ?_)
                  · rw [if_pos (pm_bt h314)] at h
                    refine il3 c221_157 ?_
                    refine r_ifeq (t := 175) c221_158 rfl (fun h315 => ?_) (fun h315 => ?_)
                    · rw [if_neg (pm_bf h315)] at h
                      refine al0 c221_175 ?_
                      obtain ⟨⟨ov316, I317, J318⟩, e319, h⟩ := pm_bd_sp h
                      dsimp only at h
                      refine cz1 q221_176 (μ1 := (I317, J318, P, pm_T0, e)) (d233 hw e319) rfl ?_
                      refine il3 c221_179 ?_
                      refine r_ifeq (t := 190) c221_180 rfl (fun h320 => ?_) (fun h320 => ?_)
                      · rw [if_neg (pm_bf h320)] at h
                        refine al0 c221_190 ?_
                        refine il4 c221_191 ?_
                        obtain ⟨⟨ov321, I322, J323⟩, e324, h⟩ := pm_bd_sp h
                        dsimp only at h
                        refine cz2 q221_193 (μ1 := (I322, J323, P, pm_T0, e)) (d237 hw e324) rfl ?_
                        refine al0 c221_196 ?_
                        refine r_bi c221_197 kB59 ?_
                        obtain ⟨⟨ov325, I326, J327⟩, e328, h⟩ := pm_bd_sp h
                        dsimp only at h
                        refine cz2 q221_199 (μ1 := (I326, J327, P, pm_T0, e)) (d238 hw e328) rfl ?_
                        refine ii2c c221_202 kI1 ?_
                        refine r_go (t := 44) c221_205 rfl ?_
                        exact ih h
                      · rw [if_pos (pm_bt h320)] at h
                        refine al0 c221_183 ?_
                        obtain ⟨⟨ov329, I330, J331⟩, e332, h⟩ := pm_bd_sp h
                        dsimp only at h
                        refine cz1 q221_184 (μ1 := (I330, J331, P, pm_T0, e)) (d234 hw e332) rfl ?_
                        refine r_go (t := 196) c221_187 rfl ?_
                        refine al0 c221_196 ?_
                        refine r_bi c221_197 kB59 ?_
                        obtain ⟨⟨ov333, I334, J335⟩, e336, h⟩ := pm_bd_sp h
                        dsimp only at h
                        refine cz2 q221_199 (μ1 := (I334, J335, P, pm_T0, e)) (d238 hw e336) rfl ?_
                        refine ii2c c221_202 kI1 ?_
                        refine r_go (t := 44) c221_205 rfl ?_
                        exact ih h
                    · rw [if_pos (pm_bt h315)] at h
                      refine al0 c221_161 ?_
                      refine r_dpr c221_162 ?_
                      refine r_gi g221_163 (by first | rfl | assumption) rfl ?_
                      refine r_bi c221_166 kB7 ?_
                      refine r_iadd c221_168 ?_
                      refine w_pi p221_169 (by first | rfl | assumption) rfl ?_
                      rw [pm_lt_eq] at h
                      generalize pm_w I310 127 4 ((I310 127 4) + 7) = I337 at h ⊢
                      refine r_go (t := 179) c221_172 rfl ?_
                      refine il3 c221_179 ?_
                      refine r_ifeq (t := 190) c221_180 rfl (fun h338 => ?_) (fun h338 => ?_)
                      · rw [if_neg (pm_bf h338)] at h
                        refine al0 c221_190 ?_
                        refine il4 c221_191 ?_
                        obtain ⟨⟨ov339, I340, J341⟩, e342, h⟩ := pm_bd_sp h
                        dsimp only at h
                        refine cz2 q221_193 (μ1 := (I340, J341, P, pm_T0, e)) (d237 hw e342) rfl ?_
                        refine al0 c221_196 ?_
                        refine r_bi c221_197 kB59 ?_
                        obtain ⟨⟨ov343, I344, J345⟩, e346, h⟩ := pm_bd_sp h
                        dsimp only at h
                        refine cz2 q221_199 (μ1 := (I344, J345, P, pm_T0, e)) (d238 hw e346) rfl ?_
                        refine ii2c c221_202 kI1 ?_
                        refine r_go (t := 44) c221_205 rfl ?_
                        exact ih h
                      · rw [if_pos (pm_bt h338)] at h
                        refine al0 c221_183 ?_
                        obtain ⟨⟨ov347, I348, J349⟩, e350, h⟩ := pm_bd_sp h
                        dsimp only at h
                        refine cz1 q221_184 (μ1 := (I348, J349, P, pm_T0, e)) (d234 hw e350) rfl ?_
                        refine r_go (t := 196) c221_187 rfl ?_
                        refine al0 c221_196 ?_
                        refine r_bi c221_197 kB59 ?_
                        obtain ⟨⟨ov351, I352, J353⟩, e354, h⟩ := pm_bd_sp h
                        dsimp only at h
                        refine cz2 q221_199 (μ1 := (I352, J353, P, pm_T0, e)) (d238 hw e354) rfl ?_
                        refine ii2c c221_202 kI1 ?_
                        refine r_go (t := 44) c221_205 rfl ?_
                        exact ih h
                  · rw [if_neg (pm_bf h314)] at h
                    refine r_go (t := 208) c221_154 rfl ?_
                    refine al0 c221_208 ?_
                    refine al0 c221_209 ?_
                    refine r_gi g221_210 (by first | rfl | assumption) rfl ?_
                    obtain ⟨⟨ov355, I356, J357⟩, e358, h⟩ := pm_bd_sp h
                    dsimp only at h
                    refine cv2 q221_213 (v := .int ov355) (μ1 := (I356, J357, P, pm_T0, e)) (d239 hw e358) rfl ?_
                    refine is3 c221_216 rfl ?_
                    refine al0 c221_217 ?_
                    refine r_gi g221_218 (by first | rfl | assumption) rfl ?_
                    refine r_ic c221_221 kIm1 ?_
                    refine r_icne (t := 229) c221_222 rfl (fun h359 => ?_) (fun h359 => ?_)
                    · rw [if_neg h359] at h
                      refine il3 c221_229 ?_
                      cases h
                      exact r_ri c221_230 rt221 rfl rfl
                    · rw [if_pos h359] at h
                      refine al0 c221_225 ?_
                      obtain ⟨⟨ov360, I361, J362⟩, e363, h⟩ := pm_bd_sp h
                      dsimp only at h
                      refine cz1 q221_226 (μ1 := (I361, J362, P, pm_T0, e)) (d217 hw e363) rfl ?_
                      refine il3 c221_229 ?_
                      cases h
                      exact r_ri c221_230 rt221 rfl rfl
                · rw [if_pos h313] at h
                  refine al0 c221_130 ?_
                  refine r_gi g221_131 (by first | rfl | assumption) rfl ?_
                  refine r_ic c221_134 kI5 ?_
                  refine r_icne (t := 147) c221_135 rfl (fun h364 => ?_) (fun h364 => ?_)
                  · rw [if_neg h364] at h
                    refine al0 c221_147 ?_
                    refine cv1 q221_148 (d224 hw rfl) rfl ?_
                    refine r_ifne (t := 157) c221_151 rfl (fun h365 => ?_) (fun h365 => ?_)
                    · rw [if_pos (pm_bt h365)] at h
                      refine il3 c221_157 ?_
                      refine r_ifeq (t := 175) c221_158 rfl (fun h366 => ?_) (fun h366 => ?_)
                      · rw [if_neg (pm_bf h366)] at h
                        refine al0 c221_175 ?_
                        obtain ⟨⟨ov367, I368, J369⟩, e370, h⟩ := pm_bd_sp h
                        dsimp only at h
                        refine cz1 q221_176 (μ1 := (I368, J369, P, pm_T0, e)) (d233 hw e370) rfl ?_
                        refine il3 c221_179 ?_
                        refine r_ifeq (t := 190) c221_180 rfl (fun h371 => ?_) (fun h371 => ?_)
                        · rw [if_neg (pm_bf h371)] at h
                          refine al0 c221_190 ?_
                          refine il4 c221_191 ?_
                          obtain ⟨⟨ov372, I373, J374⟩, e375, h⟩ := pm_bd_sp h
                          dsimp only at h
                          refine cz2 q221_193 (μ1 := (I373, J374, P, pm_T0, e)) (d237 hw e375) rfl ?_
                          refine al0 c221_196 ?_
                          refine r_bi c221_197 kB59 ?_
                          obtain ⟨⟨ov376, I377, J378⟩, e379, h⟩ := pm_bd_sp h
                          dsimp only at h
                          refine cz2 q221_199 (μ1 := (I377, J378, P, pm_T0, e)) (d238 hw e379) rfl ?_
                          refine ii2c c221_202 kI1 ?_
                          refine r_go (t := 44) c221_205 rfl ?_
                          exact ih h
                        · rw [if_pos (pm_bt h371)] at h
                          refine al0 c221_183 ?_
                          obtain ⟨⟨ov380, I381, J382⟩, e383, h⟩ := pm_bd_sp h
                          dsimp only at h
                          refine cz1 q221_184 (μ1 := (I381, J382, P, pm_T0, e)) (d234 hw e383) rfl ?_
                          refine r_go (t := 196) c221_187 rfl ?_
                          refine al0 c221_196 ?_
                          refine r_bi c221_197 kB59 ?_
                          obtain ⟨⟨ov384, I385, J386⟩, e387, h⟩ := pm_bd_sp h
                          dsimp only at h
                          refine cz2 q221_199 (μ1 := (I385, J386, P, pm_T0, e)) (d238 hw e387) rfl ?_
                          refine ii2c c221_202 kI1 ?_
                          refine r_go (t := 44) c221_205 rfl ?_
                          exact ih h
                      · rw [if_pos (pm_bt h366)] at h
                        refine al0 c221_161 ?_
                        refine r_dpr c221_162 ?_
                        refine r_gi g221_163 (by first | rfl | assumption) rfl ?_
                        refine r_bi c221_166 kB7 ?_
                        refine r_iadd c221_168 ?_
                        refine w_pi p221_169 (by first | rfl | assumption) rfl ?_
                        rw [pm_lt_eq] at h
                        generalize pm_w I310 127 4 ((I310 127 4) + 7) = I388 at h ⊢
                        refine r_go (t := 179) c221_172 rfl ?_
                        refine il3 c221_179 ?_
                        refine r_ifeq (t := 190) c221_180 rfl (fun h389 => ?_) (fun h389 => ?_)
                        · rw [if_neg (pm_bf h389)] at h
                          refine al0 c221_190 ?_
                          refine il4 c221_191 ?_
                          obtain ⟨⟨ov390, I391, J392⟩, e393, h⟩ := pm_bd_sp h
                          dsimp only at h
                          refine cz2 q221_193 (μ1 := (I391, J392, P, pm_T0, e)) (d237 hw e393) rfl ?_
                          refine al0 c221_196 ?_
                          refine r_bi c221_197 kB59 ?_
                          obtain ⟨⟨ov394, I395, J396⟩, e397, h⟩ := pm_bd_sp h
                          dsimp only at h
                          refine cz2 q221_199 (μ1 := (I395, J396, P, pm_T0, e)) (d238 hw e397) rfl ?_
                          refine ii2c c221_202 kI1 ?_
                          refine r_go (t := 44) c221_205 rfl ?_
                          exact ih h
                        · rw [if_pos (pm_bt h389)] at h
                          refine al0 c221_183 ?_
                          obtain ⟨⟨ov398, I399, J400⟩, e401, h⟩ := pm_bd_sp h
                          dsimp only at h
                          refine cz1 q221_184 (μ1 := (I399, J400, P, pm_T0, e)) (d234 hw e401) rfl ?_
                          refine r_go (t := 196) c221_187 rfl ?_
                          refine al0 c221_196 ?_
                          refine r_bi c221_197 kB59 ?_
                          obtain ⟨⟨ov402, I403, J404⟩, e405, h⟩ := pm_bd_sp h
                          dsimp only at h
                          refine cz2 q221_199 (μ1 := (I403, J404, P, pm_T0, e)) (d238 hw e405) rfl ?_
                          refine ii2c c221_202 kI1 ?_
                          refine r_go (t := 44) c221_205 rfl ?_
                          exact ih h
                    · rw [if_neg (pm_bf h365)] at h
                      refine r_go (t := 208) c221_154 rfl ?_
                      refine al0 c221_208 ?_
                      refine al0 c221_209 ?_
                      refine r_gi g221_210 (by first | rfl | assumption) rfl ?_
                      obtain ⟨⟨ov406, I407, J408⟩, e409, h⟩ := pm_bd_sp h
                      dsimp only at h
                      refine cv2 q221_213 (v := .int ov406) (μ1 := (I407, J408, P, pm_T0, e)) (d239 hw e409) rfl ?_
                      refine is3 c221_216 rfl ?_
                      refine al0 c221_217 ?_
                      refine r_gi g221_218 (by first | rfl | assumption) rfl ?_
                      refine r_ic c221_221 kIm1 ?_
                      refine r_icne (t := 229) c221_222 rfl (fun h410 => ?_) (fun h410 => ?_)
                      · rw [if_neg h410] at h
                        refine il3 c221_229 ?_
                        cases h
                        exact r_ri c221_230 rt221 rfl rfl
                      · rw [if_pos h410] at h
                        refine al0 c221_225 ?_
                        obtain ⟨⟨ov411, I412, J413⟩, e414, h⟩ := pm_bd_sp h
                        dsimp only at h
                        refine cz1 q221_226 (μ1 := (I412, J413, P, pm_T0, e)) (d217 hw e414) rfl ?_
                        refine il3 c221_229 ?_
                        cases h
                        exact r_ri c221_230 rt221 rfl rfl
                  · rw [if_pos h364] at h
                    refine al0 c221_138 ?_
                    refine r_ic c221_139 kI3 ?_
                    refine al0 c221_140 ?_
                    refine r_gi g221_141 (by first | rfl | assumption) rfl ?_
                    obtain ⟨⟨ov415, I416, J417⟩, e418, h⟩ := pm_bd_sp h
                    dsimp only at h
                    refine cz3 q221_144 (μ1 := (I416, J417, P, pm_T0, e)) (d232 hw e418) rfl ?_
                    refine al0 c221_147 ?_
                    refine cv1 q221_148 (d224 hw rfl) rfl ?_
                    refine r_ifne (t := 157) c221_151 rfl (fun h419 => ?_) (fun h419 => ?_)
                    · rw [if_pos (pm_bt h419)] at h
                      refine il3 c221_157 ?_
                      refine r_ifeq (t := 175) c221_158 rfl (fun h420 => ?_) (fun h420 => ?_)
                      · rw [if_neg (pm_bf h420)] at h
                        refine al0 c221_175 ?_
                        obtain ⟨⟨ov421, I422, J423⟩, e424, h⟩ := pm_bd_sp h
                        dsimp only at h
                        refine cz1 q221_176 (μ1 := (I422, J423, P, pm_T0, e)) (d233 hw e424) rfl ?_
                        refine il3 c221_179 ?_
                        refine r_ifeq (t := 190) c221_180 rfl (fun h425 => ?_) (fun h425 => ?_)
                        · rw [if_neg (pm_bf h425)] at h
                          refine al0 c221_190 ?_
                          refine il4 c221_191 ?_
                          obtain ⟨⟨ov426, I427, J428⟩, e429, h⟩ := pm_bd_sp h
                          dsimp only at h
                          refine cz2 q221_193 (μ1 := (I427, J428, P, pm_T0, e)) (d237 hw e429) rfl ?_
                          refine al0 c221_196 ?_
                          refine r_bi c221_197 kB59 ?_
                          obtain ⟨⟨ov430, I431, J432⟩, e433, h⟩ := pm_bd_sp h
                          dsimp only at h
                          refine cz2 q221_199 (μ1 := (I431, J432, P, pm_T0, e)) (d238 hw e433) rfl ?_
                          refine ii2c c221_202 kI1 ?_
                          refine r_go (t := 44) c221_205 rfl ?_
                          exact ih h
                        · rw [if_pos (pm_bt h425)] at h
                          refine al0 c221_183 ?_
                          obtain ⟨⟨ov434, I435, J436⟩, e437, h⟩ := pm_bd_sp h
                          dsimp only at h
                          refine cz1 q221_184 (μ1 := (I435, J436, P, pm_T0, e)) (d234 hw e437) rfl ?_
                          refine r_go (t := 196) c221_187 rfl ?_
                          refine al0 c221_196 ?_
                          refine r_bi c221_197 kB59 ?_
                          obtain ⟨⟨ov438, I439, J440⟩, e441, h⟩ := pm_bd_sp h
                          dsimp only at h
                          refine cz2 q221_199 (μ1 := (I439, J440, P, pm_T0, e)) (d238 hw e441) rfl ?_
                          refine ii2c c221_202 kI1 ?_
                          refine r_go (t := 44) c221_205 rfl ?_
                          exact ih h
                      · rw [if_pos (pm_bt h420)] at h
                        refine al0 c221_161 ?_
                        refine r_dpr c221_162 ?_
                        refine r_gi g221_163 (by first | rfl | assumption) rfl ?_
                        refine r_bi c221_166 kB7 ?_
                        refine r_iadd c221_168 ?_
                        refine w_pi p221_169 (by first | rfl | assumption) rfl ?_
                        rw [pm_lt_eq] at h
                        generalize pm_w I416 127 4 ((I416 127 4) + 7) = I442 at h ⊢
                        refine r_go (t := 179) c221_172 rfl ?_
                        refine il3 c221_179 ?_
                        refine r_ifeq (t := 190) c221_180 rfl (fun h443 => ?_) (fun h443 => ?_)
                        · rw [if_neg (pm_bf h443)] at h
                          refine al0 c221_190 ?_
                          refine il4 c221_191 ?_
                          obtain ⟨⟨ov444, I445, J446⟩, e447, h⟩ := pm_bd_sp h
                          dsimp only at h
                          refine cz2 q221_193 (μ1 := (I445, J446, P, pm_T0, e)) (d237 hw e447) rfl ?_
                          refine al0 c221_196 ?_
                          refine r_bi c221_197 kB59 ?_
                          obtain ⟨⟨ov448, I449, J450⟩, e451, h⟩ := pm_bd_sp h
                          dsimp only at h
                          refine cz2 q221_199 (μ1 := (I449, J450, P, pm_T0, e)) (d238 hw e451) rfl ?_
                          refine ii2c c221_202 kI1 ?_
                          refine r_go (t := 44) c221_205 rfl ?_
                          exact ih h
                        · rw [if_pos (pm_bt h443)] at h
                          refine al0 c221_183 ?_
                          obtain ⟨⟨ov452, I453, J454⟩, e455, h⟩ := pm_bd_sp h
                          dsimp only at h
                          refine cz1 q221_184 (μ1 := (I453, J454, P, pm_T0, e)) (d234 hw e455) rfl ?_
                          refine r_go (t := 196) c221_187 rfl ?_
                          refine al0 c221_196 ?_
                          refine r_bi c221_197 kB59 ?_
                          obtain ⟨⟨ov456, I457, J458⟩, e459, h⟩ := pm_bd_sp h
                          dsimp only at h
                          refine cz2 q221_199 (μ1 := (I457, J458, P, pm_T0, e)) (d238 hw e459) rfl ?_
                          refine ii2c c221_202 kI1 ?_
                          refine r_go (t := 44) c221_205 rfl ?_
                          exact ih h
                    · rw [if_neg (pm_bf h419)] at h
                      refine r_go (t := 208) c221_154 rfl ?_
                      refine al0 c221_208 ?_
                      refine al0 c221_209 ?_
                      refine r_gi g221_210 (by first | rfl | assumption) rfl ?_
                      obtain ⟨⟨ov460, I461, J462⟩, e463, h⟩ := pm_bd_sp h
                      dsimp only at h
                      refine cv2 q221_213 (v := .int ov460) (μ1 := (I461, J462, P, pm_T0, e)) (d239 hw e463) rfl ?_
                      refine is3 c221_216 rfl ?_
                      refine al0 c221_217 ?_
                      refine r_gi g221_218 (by first | rfl | assumption) rfl ?_
                      refine r_ic c221_221 kIm1 ?_
                      refine r_icne (t := 229) c221_222 rfl (fun h464 => ?_) (fun h464 => ?_)
                      · rw [if_neg h464] at h
                        refine il3 c221_229 ?_
                        cases h
                        exact r_ri c221_230 rt221 rfl rfl
                      · rw [if_pos h464] at h
                        refine al0 c221_225 ?_
                        obtain ⟨⟨ov465, I466, J467⟩, e468, h⟩ := pm_bd_sp h
                        dsimp only at h
                        refine cz1 q221_226 (μ1 := (I466, J467, P, pm_T0, e)) (d217 hw e468) rfl ?_
                        refine il3 c221_229 ?_
                        cases h
                        exact r_ri c221_230 rt221 rfl rfl
        · rw [if_neg (pm_bf h33)] at h
          refine il4 c221_75 ?_
          obtain ⟨⟨ov469, I470, J471⟩, e472, h⟩ := pm_bd_sp h
          dsimp only at h
          refine cv1 q221_77 (v := .int (pm_bi ov469)) (μ1 := (I470, J471, P, pm_T0, e)) (d230 hw e472) rfl ?_
          refine r_ifne (t := 95) c221_80 rfl (fun h473 => ?_) (fun h473 => ?_)
          · rw [if_pos (pm_bt h473)] at h
            refine il2 c221_95 ?_
            refine r_bi c221_96 kB60 ?_
            refine r_iceq (t := 138) c221_98 rfl (fun h474 => ?_) (fun h474 => ?_)
            · rw [if_pos h474] at h
              refine al0 c221_138 ?_
              refine r_ic c221_139 kI3 ?_
              refine al0 c221_140 ?_
              refine r_gi g221_141 (by first | rfl | assumption) rfl ?_
              obtain ⟨⟨ov475, I476, J477⟩, e478, h⟩ := pm_bd_sp h
              dsimp only at h
              refine cz3 q221_144 (μ1 := (I476, J477, P, pm_T0, e)) (d232 hw e478) rfl ?_
              refine al0 c221_147 ?_
              refine cv1 q221_148 (d224 hw rfl) rfl ?_
              refine r_ifne (t := 157) c221_151 rfl (fun h479 => ?_) (fun h479 => ?_)
              · rw [if_pos (pm_bt h479)] at h
                refine il3 c221_157 ?_
                refine r_ifeq (t := 175) c221_158 rfl (fun h480 => ?_) (fun h480 => ?_)
                · rw [if_neg (pm_bf h480)] at h
                  refine al0 c221_175 ?_
                  obtain ⟨⟨ov481, I482, J483⟩, e484, h⟩ := pm_bd_sp h
                  dsimp only at h
                  refine cz1 q221_176 (μ1 := (I482, J483, P, pm_T0, e)) (d233 hw e484) rfl ?_
                  refine il3 c221_179 ?_
                  refine r_ifeq (t := 190) c221_180 rfl (fun h485 => ?_) (fun h485 => ?_)
                  · rw [if_neg (pm_bf h485)] at h
                    refine al0 c221_190 ?_
                    refine il4 c221_191 ?_
                    obtain ⟨⟨ov486, I487, J488⟩, e489, h⟩ := pm_bd_sp h
                    dsimp only at h
                    refine cz2 q221_193 (μ1 := (I487, J488, P, pm_T0, e)) (d237 hw e489) rfl ?_
                    refine al0 c221_196 ?_
                    refine r_bi c221_197 kB59 ?_
                    obtain ⟨⟨ov490, I491, J492⟩, e493, h⟩ := pm_bd_sp h
                    dsimp only at h
                    refine cz2 q221_199 (μ1 := (I491, J492, P, pm_T0, e)) (d238 hw e493) rfl ?_
                    refine ii2c c221_202 kI1 ?_
                    refine r_go (t := 44) c221_205 rfl ?_
                    exact ih h
                  · rw [if_pos (pm_bt h485)] at h
                    refine al0 c221_183 ?_
                    obtain ⟨⟨ov494, I495, J496⟩, e497, h⟩ := pm_bd_sp h
                    dsimp only at h
                    refine cz1 q221_184 (μ1 := (I495, J496, P, pm_T0, e)) (d234 hw e497) rfl ?_
                    refine r_go (t := 196) c221_187 rfl ?_
                    refine al0 c221_196 ?_
                    refine r_bi c221_197 kB59 ?_
                    obtain ⟨⟨ov498, I499, J500⟩, e501, h⟩ := pm_bd_sp h
                    dsimp only at h
                    refine cz2 q221_199 (μ1 := (I499, J500, P, pm_T0, e)) (d238 hw e501) rfl ?_
                    refine ii2c c221_202 kI1 ?_
                    refine r_go (t := 44) c221_205 rfl ?_
                    exact ih h
                · rw [if_pos (pm_bt h480)] at h
                  refine al0 c221_161 ?_
                  refine r_dpr c221_162 ?_
                  refine r_gi g221_163 (by first | rfl | assumption) rfl ?_
                  refine r_bi c221_166 kB7 ?_
                  refine r_iadd c221_168 ?_
                  refine w_pi p221_169 (by first | rfl | assumption) rfl ?_
                  rw [pm_lt_eq] at h
                  generalize pm_w I476 127 4 ((I476 127 4) + 7) = I502 at h ⊢
                  refine r_go (t := 179) c221_172 rfl ?_
                  refine il3 c221_179 ?_
                  refine r_ifeq (t := 190) c221_180 rfl (fun h503 => ?_) (fun h503 => ?_)
                  · rw [if_neg (pm_bf h503)] at h
                    refine al0 c221_190 ?_
                    refine il4 c221_191 ?_
                    obtain ⟨⟨ov504, I505, J506⟩, e507, h⟩ := pm_bd_sp h
                    dsimp only at h
                    refine cz2 q221_193 (μ1 := (I505, J506, P, pm_T0, e)) (d237 hw e507) rfl ?_
                    refine al0 c221_196 ?_
                    refine r_bi c221_197 kB59 ?_
                    obtain ⟨⟨ov508, I509, J510⟩, e511, h⟩ := pm_bd_sp h
                    dsimp only at h
                    refine cz2 q221_199 (μ1 := (I509, J510, P, pm_T0, e)) (d238 hw e511) rfl ?_
                    refine ii2c c221_202 kI1 ?_
                    refine r_go (t := 44) c221_205 rfl ?_
                    exact ih h
                  · rw [if_pos (pm_bt h503)] at h
                    refine al0 c221_183 ?_
                    obtain ⟨⟨ov512, I513, J514⟩, e515, h⟩ := pm_bd_sp h
                    dsimp only at h
                    refine cz1 q221_184 (μ1 := (I513, J514, P, pm_T0, e)) (d234 hw e515) rfl ?_
                    refine r_go (t := 196) c221_187 rfl ?_
                    refine al0 c221_196 ?_
                    refine r_bi c221_197 kB59 ?_
                    obtain ⟨⟨ov516, I517, J518⟩, e519, h⟩ := pm_bd_sp h
                    dsimp only at h
                    refine cz2 q221_199 (μ1 := (I517, J518, P, pm_T0, e)) (d238 hw e519) rfl ?_
                    refine ii2c c221_202 kI1 ?_
                    refine r_go (t := 44) c221_205 rfl ?_
                    exact ih h
              · rw [if_neg (pm_bf h479)] at h
                refine r_go (t := 208) c221_154 rfl ?_
                refine al0 c221_208 ?_
                refine al0 c221_209 ?_
                refine r_gi g221_210 (by first | rfl | assumption) rfl ?_
                obtain ⟨⟨ov520, I521, J522⟩, e523, h⟩ := pm_bd_sp h
                dsimp only at h
                refine cv2 q221_213 (v := .int ov520) (μ1 := (I521, J522, P, pm_T0, e)) (d239 hw e523) rfl ?_
                refine is3 c221_216 rfl ?_
                refine al0 c221_217 ?_
                refine r_gi g221_218 (by first | rfl | assumption) rfl ?_
                refine r_ic c221_221 kIm1 ?_
                refine r_icne (t := 229) c221_222 rfl (fun h524 => ?_) (fun h524 => ?_)
                · rw [if_neg h524] at h
                  refine il3 c221_229 ?_
                  cases h
                  exact r_ri c221_230 rt221 rfl rfl
                · rw [if_pos h524] at h
                  refine al0 c221_225 ?_
                  obtain ⟨⟨ov525, I526, J527⟩, e528, h⟩ := pm_bd_sp h
                  dsimp only at h
                  refine cz1 q221_226 (μ1 := (I526, J527, P, pm_T0, e)) (d217 hw e528) rfl ?_
                  refine il3 c221_229 ?_
                  cases h
                  exact r_ri c221_230 rt221 rfl rfl
            · rw [if_neg h474] at h
              refine il4 c221_101 ?_
              refine r_ks v221_103 ?_
              obtain ⟨⟨ov529, I530, J531⟩, e532, h⟩ := pm_bd_sp h
              dsimp only at h
              refine cv1 q221_105 (v := .int ov529) (μ1 := (I530, J531, P, pm_T0, e)) (d231 hw (by first | rfl | assumption | decide) e532) rfl ?_
              refine r_icne (t := 120) c221_108 rfl (fun h533 => ?_) (fun h533 => ?_)
              · rw [if_neg h533] at h
                refine il4 c221_120 ?_
                refine r_ks v221_122 ?_
                obtain ⟨⟨ov534, I535, J536⟩, e537, h⟩ := pm_bd_sp h
                dsimp only at h
                refine cv1 q221_124 (v := .int ov534) (μ1 := (I535, J536, P, pm_T0, e)) (d231 hw (by first | rfl | assumption | decide) e537) rfl ?_
                refine r_icne (t := 147) c221_127 rfl (fun h538 => ?_) (fun h538 => ?_)
                · rw [if_neg h538] at h
                  refine al0 c221_147 ?_
                  refine cv1 q221_148 (d224 hw rfl) rfl ?_
                  refine r_ifne (t := 157) c221_151 rfl (fun h539 => ?_) (fun h539 => ?_)
                  · rw [if_pos (pm_bt h539)] at h
                    refine il3 c221_157 ?_
                    refine r_ifeq (t := 175) c221_158 rfl (fun h540 => ?_) (fun h540 => ?_)
                    · rw [if_neg (pm_bf h540)] at h
                      refine al0 c221_175 ?_
                      obtain ⟨⟨ov541, I542, J543⟩, e544, h⟩ := pm_bd_sp h
                      dsimp only at h
                      refine cz1 q221_176 (μ1 := (I542, J543, P, pm_T0, e)) (d233 hw e544) rfl ?_
                      refine il3 c221_179 ?_
                      refine r_ifeq (t := 190) c221_180 rfl (fun h545 => ?_) (fun h545 => ?_)
                      · rw [if_neg (pm_bf h545)] at h
                        refine al0 c221_190 ?_
                        refine il4 c221_191 ?_
                        obtain ⟨⟨ov546, I547, J548⟩, e549, h⟩ := pm_bd_sp h
                        dsimp only at h
                        refine cz2 q221_193 (μ1 := (I547, J548, P, pm_T0, e)) (d237 hw e549) rfl ?_
                        refine al0 c221_196 ?_
                        refine r_bi c221_197 kB59 ?_
                        obtain ⟨⟨ov550, I551, J552⟩, e553, h⟩ := pm_bd_sp h
                        dsimp only at h
                        refine cz2 q221_199 (μ1 := (I551, J552, P, pm_T0, e)) (d238 hw e553) rfl ?_
                        refine ii2c c221_202 kI1 ?_
                        refine r_go (t := 44) c221_205 rfl ?_
                        exact ih h
                      · rw [if_pos (pm_bt h545)] at h
                        refine al0 c221_183 ?_
                        obtain ⟨⟨ov554, I555, J556⟩, e557, h⟩ := pm_bd_sp h
                        dsimp only at h
                        refine cz1 q221_184 (μ1 := (I555, J556, P, pm_T0, e)) (d234 hw e557) rfl ?_
                        refine r_go (t := 196) c221_187 rfl ?_
                        refine al0 c221_196 ?_
                        refine r_bi c221_197 kB59 ?_
                        obtain ⟨⟨ov558, I559, J560⟩, e561, h⟩ := pm_bd_sp h
                        dsimp only at h
                        refine cz2 q221_199 (μ1 := (I559, J560, P, pm_T0, e)) (d238 hw e561) rfl ?_
                        refine ii2c c221_202 kI1 ?_
                        refine r_go (t := 44) c221_205 rfl ?_
                        exact ih h
                    · rw [if_pos (pm_bt h540)] at h
                      refine al0 c221_161 ?_
                      refine r_dpr c221_162 ?_
                      refine r_gi g221_163 (by first | rfl | assumption) rfl ?_
                      refine r_bi c221_166 kB7 ?_
                      refine r_iadd c221_168 ?_
                      refine w_pi p221_169 (by first | rfl | assumption) rfl ?_
                      rw [pm_lt_eq] at h
                      generalize pm_w I535 127 4 ((I535 127 4) + 7) = I562 at h ⊢
                      refine r_go (t := 179) c221_172 rfl ?_
                      refine il3 c221_179 ?_
                      refine r_ifeq (t := 190) c221_180 rfl (fun h563 => ?_) (fun h563 => ?_)
                      · rw [if_neg (pm_bf h563)] at h
                        refine al0 c221_190 ?_
                        refine il4 c221_191 ?_
                        obtain ⟨⟨ov564, I565, J566⟩, e567, h⟩ := pm_bd_sp h
                        dsimp only at h
                        refine cz2 q221_193 (μ1 := (I565, J566, P, pm_T0, e)) (d237 hw e567) rfl ?_
                        refine al0 c221_196 ?_
                        refine r_bi c221_197 kB59 ?_
                        obtain ⟨⟨ov568, I569, J570⟩, e571, h⟩ := pm_bd_sp h
                        dsimp only at h
                        refine cz2 q221_199 (μ1 := (I569, J570, P, pm_T0, e)) (d238 hw e571) rfl ?_
                        refine ii2c c221_202 kI1 ?_
                        refine r_go (t := 44) c221_205 rfl ?_
                        exact ih h
                      · rw [if_pos (pm_bt h563)] at h
                        refine al0 c221_183 ?_
                        obtain ⟨⟨ov572, I573, J574⟩, e575, h⟩ := pm_bd_sp h
                        dsimp only at h
                        refine cz1 q221_184 (μ1 := (I573, J574, P, pm_T0, e)) (d234 hw e575) rfl ?_
                        refine r_go (t := 196) c221_187 rfl ?_
                        refine al0 c221_196 ?_
                        refine r_bi c221_197 kB59 ?_
                        obtain ⟨⟨ov576, I577, J578⟩, e579, h⟩ := pm_bd_sp h
                        dsimp only at h
                        refine cz2 q221_199 (μ1 := (I577, J578, P, pm_T0, e)) (d238 hw e579) rfl ?_
                        refine ii2c c221_202 kI1 ?_
                        refine r_go (t := 44) c221_205 rfl ?_
                        exact ih h
                  · rw [if_neg (pm_bf h539)] at h
                    refine r_go (t := 208) c221_154 rfl ?_
                    refine al0 c221_208 ?_
                    refine al0 c221_209 ?_
                    refine r_gi g221_210 (by first | rfl | assumption) rfl ?_
                    obtain ⟨⟨ov580, I581, J582⟩, e583, h⟩ := pm_bd_sp h
                    dsimp only at h
                    refine cv2 q221_213 (v := .int ov580) (μ1 := (I581, J582, P, pm_T0, e)) (d239 hw e583) rfl ?_
                    refine is3 c221_216 rfl ?_
                    refine al0 c221_217 ?_
                    refine r_gi g221_218 (by first | rfl | assumption) rfl ?_
                    refine r_ic c221_221 kIm1 ?_
                    refine r_icne (t := 229) c221_222 rfl (fun h584 => ?_) (fun h584 => ?_)
                    · rw [if_neg h584] at h
                      refine il3 c221_229 ?_
                      cases h
                      exact r_ri c221_230 rt221 rfl rfl
                    · rw [if_pos h584] at h
                      refine al0 c221_225 ?_
                      obtain ⟨⟨ov585, I586, J587⟩, e588, h⟩ := pm_bd_sp h
                      dsimp only at h
                      refine cz1 q221_226 (μ1 := (I586, J587, P, pm_T0, e)) (d217 hw e588) rfl ?_
                      refine il3 c221_229 ?_
                      cases h
                      exact r_ri c221_230 rt221 rfl rfl
                · rw [if_pos h538] at h
                  refine al0 c221_130 ?_
                  refine r_gi g221_131 (by first | rfl | assumption) rfl ?_
                  refine r_ic c221_134 kI5 ?_
                  refine r_icne (t := 147) c221_135 rfl (fun h589 => ?_) (fun h589 => ?_)
                  · rw [if_neg h589] at h
                    refine al0 c221_147 ?_
                    refine cv1 q221_148 (d224 hw rfl) rfl ?_
                    refine r_ifne (t := 157) c221_151 rfl (fun h590 => ?_) (fun h590 => ?_)
                    · rw [if_pos (pm_bt h590)] at h
                      refine il3 c221_157 ?_
                      refine r_ifeq (t := 175) c221_158 rfl (fun h591 => ?_) (fun h591 => ?_)
                      · rw [if_neg (pm_bf h591)] at h
                        refine al0 c221_175 ?_
                        obtain ⟨⟨ov592, I593, J594⟩, e595, h⟩ := pm_bd_sp h
                        dsimp only at h
                        refine cz1 q221_176 (μ1 := (I593, J594, P, pm_T0, e)) (d233 hw e595) rfl ?_
                        refine il3 c221_179 ?_
                        refine r_ifeq (t := 190) c221_180 rfl (fun h596 => ?_) (fun h596 => ?_)
                        · rw [if_neg (pm_bf h596)] at h
                          refine al0 c221_190 ?_
                          refine il4 c221_191 ?_
                          obtain ⟨⟨ov597, I598, J599⟩, e600, h⟩ := pm_bd_sp h
                          dsimp only at h
                          refine cz2 q221_193 (μ1 := (I598, J599, P, pm_T0, e)) (d237 hw e600) rfl ?_
                          refine al0 c221_196 ?_
                          refine r_bi c221_197 kB59 ?_
                          obtain ⟨⟨ov601, I602, J603⟩, e604, h⟩ := pm_bd_sp h
                          dsimp only at h
                          refine cz2 q221_199 (μ1 := (I602, J603, P, pm_T0, e)) (d238 hw e604) rfl ?_
                          refine ii2c c221_202 kI1 ?_
                          refine r_go (t := 44) c221_205 rfl ?_
                          exact ih h
                        · rw [if_pos (pm_bt h596)] at h
                          refine al0 c221_183 ?_
                          obtain ⟨⟨ov605, I606, J607⟩, e608, h⟩ := pm_bd_sp h
                          dsimp only at h
                          refine cz1 q221_184 (μ1 := (I606, J607, P, pm_T0, e)) (d234 hw e608) rfl ?_
                          refine r_go (t := 196) c221_187 rfl ?_
                          refine al0 c221_196 ?_
                          refine r_bi c221_197 kB59 ?_
                          obtain ⟨⟨ov609, I610, J611⟩, e612, h⟩ := pm_bd_sp h
                          dsimp only at h
                          refine cz2 q221_199 (μ1 := (I610, J611, P, pm_T0, e)) (d238 hw e612) rfl ?_
                          refine ii2c c221_202 kI1 ?_
                          refine r_go (t := 44) c221_205 rfl ?_
                          exact ih h
                      · rw [if_pos (pm_bt h591)] at h
                        refine al0 c221_161 ?_
                        refine r_dpr c221_162 ?_
                        refine r_gi g221_163 (by first | rfl | assumption) rfl ?_
                        refine r_bi c221_166 kB7 ?_
                        refine r_iadd c221_168 ?_
                        refine w_pi p221_169 (by first | rfl | assumption) rfl ?_
                        rw [pm_lt_eq] at h
                        generalize pm_w I535 127 4 ((I535 127 4) + 7) = I613 at h ⊢
                        refine r_go (t := 179) c221_172 rfl ?_
                        refine il3 c221_179 ?_
                        refine r_ifeq (t := 190) c221_180 rfl (fun h614 => ?_) (fun h614 => ?_)
                        · rw [if_neg (pm_bf h614)] at h
                          refine al0 c221_190 ?_
                          refine il4 c221_191 ?_
                          obtain ⟨⟨ov615, I616, J617⟩, e618, h⟩ := pm_bd_sp h
                          dsimp only at h
                          refine cz2 q221_193 (μ1 := (I616, J617, P, pm_T0, e)) (d237 hw e618) rfl ?_
                          refine al0 c221_196 ?_
                          refine r_bi c221_197 kB59 ?_
                          obtain ⟨⟨ov619, I620, J621⟩, e622, h⟩ := pm_bd_sp h
                          dsimp only at h
                          refine cz2 q221_199 (μ1 := (I620, J621, P, pm_T0, e)) (d238 hw e622) rfl ?_
                          refine ii2c c221_202 kI1 ?_
                          refine r_go (t := 44) c221_205 rfl ?_
                          exact ih h
                        · rw [if_pos (pm_bt h614)] at h
                          refine al0 c221_183 ?_
                          obtain ⟨⟨ov623, I624, J625⟩, e626, h⟩ := pm_bd_sp h
                          dsimp only at h
                          refine cz1 q221_184 (μ1 := (I624, J625, P, pm_T0, e)) (d234 hw e626) rfl ?_
                          refine r_go (t := 196) c221_187 rfl ?_
                          refine al0 c221_196 ?_
                          refine r_bi c221_197 kB59 ?_
                          obtain ⟨⟨ov627, I628, J629⟩, e630, h⟩ := pm_bd_sp h
                          dsimp only at h
                          refine cz2 q221_199 (μ1 := (I628, J629, P, pm_T0, e)) (d238 hw e630) rfl ?_
                          refine ii2c c221_202 kI1 ?_
                          refine r_go (t := 44) c221_205 rfl ?_
                          exact ih h
                    · rw [if_neg (pm_bf h590)] at h
                      refine r_go (t := 208) c221_154 rfl ?_
                      refine al0 c221_208 ?_
                      refine al0 c221_209 ?_
                      refine r_gi g221_210 (by first | rfl | assumption) rfl ?_
                      obtain ⟨⟨ov631, I632, J633⟩, e634, h⟩ := pm_bd_sp h
                      dsimp only at h
                      refine cv2 q221_213 (v := .int ov631) (μ1 := (I632, J633, P, pm_T0, e)) (d239 hw e634) rfl ?_
                      refine is3 c221_216 rfl ?_
                      refine al0 c221_217 ?_
                      refine r_gi g221_218 (by first | rfl | assumption) rfl ?_
                      refine r_ic c221_221 kIm1 ?_
                      refine r_icne (t := 229) c221_222 rfl (fun h635 => ?_) (fun h635 => ?_)
                      · rw [if_neg h635] at h
                        refine il3 c221_229 ?_
                        cases h
                        exact r_ri c221_230 rt221 rfl rfl
                      · rw [if_pos h635] at h
                        refine al0 c221_225 ?_
                        obtain ⟨⟨ov636, I637, J638⟩, e639, h⟩ := pm_bd_sp h
                        dsimp only at h
                        refine cz1 q221_226 (μ1 := (I637, J638, P, pm_T0, e)) (d217 hw e639) rfl ?_
                        refine il3 c221_229 ?_
                        cases h
                        exact r_ri c221_230 rt221 rfl rfl
                  · rw [if_pos h589] at h
                    refine al0 c221_138 ?_
                    refine r_ic c221_139 kI3 ?_
                    refine al0 c221_140 ?_
                    refine r_gi g221_141 (by first | rfl | assumption) rfl ?_
                    obtain ⟨⟨ov640, I641, J642⟩, e643, h⟩ := pm_bd_sp h
                    dsimp only at h
                    refine cz3 q221_144 (μ1 := (I641, J642, P, pm_T0, e)) (d232 hw e643) rfl ?_
                    refine al0 c221_147 ?_
                    refine cv1 q221_148 (d224 hw rfl) rfl ?_
                    refine r_ifne (t := 157) c221_151 rfl (fun h644 => ?_) (fun h644 => ?_)
                    · rw [if_pos (pm_bt h644)] at h
                      refine il3 c221_157 ?_
                      refine r_ifeq (t := 175) c221_158 rfl (fun h645 => ?_) (fun h645 => ?_)
                      · rw [if_neg (pm_bf h645)] at h
                        refine al0 c221_175 ?_
                        obtain ⟨⟨ov646, I647, J648⟩, e649, h⟩ := pm_bd_sp h
                        dsimp only at h
                        refine cz1 q221_176 (μ1 := (I647, J648, P, pm_T0, e)) (d233 hw e649) rfl ?_
                        refine il3 c221_179 ?_
                        refine r_ifeq (t := 190) c221_180 rfl (fun h650 => ?_) (fun h650 => ?_)
                        · rw [if_neg (pm_bf h650)] at h
                          refine al0 c221_190 ?_
                          refine il4 c221_191 ?_
                          obtain ⟨⟨ov651, I652, J653⟩, e654, h⟩ := pm_bd_sp h
                          dsimp only at h
                          refine cz2 q221_193 (μ1 := (I652, J653, P, pm_T0, e)) (d237 hw e654) rfl ?_
                          refine al0 c221_196 ?_
                          refine r_bi c221_197 kB59 ?_
                          obtain ⟨⟨ov655, I656, J657⟩, e658, h⟩ := pm_bd_sp h
                          dsimp only at h
                          refine cz2 q221_199 (μ1 := (I656, J657, P, pm_T0, e)) (d238 hw e658) rfl ?_
                          refine ii2c c221_202 kI1 ?_
                          refine r_go (t := 44) c221_205 rfl ?_
                          exact ih h
                        · rw [if_pos (pm_bt h650)] at h
                          refine al0 c221_183 ?_
                          obtain ⟨⟨ov659, I660, J661⟩, e662, h⟩ := pm_bd_sp h
                          dsimp only at h
                          refine cz1 q221_184 (μ1 := (I660, J661, P, pm_T0, e)) (d234 hw e662) rfl ?_
                          refine r_go (t := 196) c221_187 rfl ?_
                          refine al0 c221_196 ?_
                          refine r_bi c221_197 kB59 ?_
                          obtain ⟨⟨ov663, I664, J665⟩, e666, h⟩ := pm_bd_sp h
                          dsimp only at h
                          refine cz2 q221_199 (μ1 := (I664, J665, P, pm_T0, e)) (d238 hw e666) rfl ?_
                          refine ii2c c221_202 kI1 ?_
                          refine r_go (t := 44) c221_205 rfl ?_
                          exact ih h
                      · rw [if_pos (pm_bt h645)] at h
                        refine al0 c221_161 ?_
                        refine r_dpr c221_162 ?_
                        refine r_gi g221_163 (by first | rfl | assumption) rfl ?_
                        refine r_bi c221_166 kB7 ?_
                        refine r_iadd c221_168 ?_
                        refine w_pi p221_169 (by first | rfl | assumption) rfl ?_
                        rw [pm_lt_eq] at h
                        generalize pm_w I641 127 4 ((I641 127 4) + 7) = I667 at h ⊢
                        refine r_go (t := 179) c221_172 rfl ?_
                        refine il3 c221_179 ?_
                        refine r_ifeq (t := 190) c221_180 rfl (fun h668 => ?_) (fun h668 => ?_)
                        · rw [if_neg (pm_bf h668)] at h
                          refine al0 c221_190 ?_
                          refine il4 c221_191 ?_
                          obtain ⟨⟨ov669, I670, J671⟩, e672, h⟩ := pm_bd_sp h
                          dsimp only at h
                          refine cz2 q221_193 (μ1 := (I670, J671, P, pm_T0, e)) (d237 hw e672) rfl ?_
                          refine al0 c221_196 ?_
                          refine r_bi c221_197 kB59 ?_
                          obtain ⟨⟨ov673, I674, J675⟩, e676, h⟩ := pm_bd_sp h
                          dsimp only at h
                          refine cz2 q221_199 (μ1 := (I674, J675, P, pm_T0, e)) (d238 hw e676) rfl ?_
                          refine ii2c c221_202 kI1 ?_
                          refine r_go (t := 44) c221_205 rfl ?_
                          exact ih h
                        · rw [if_pos (pm_bt h668)] at h
                          refine al0 c221_183 ?_
                          obtain ⟨⟨ov677, I678, J679⟩, e680, h⟩ := pm_bd_sp h
                          dsimp only at h
                          refine cz1 q221_184 (μ1 := (I678, J679, P, pm_T0, e)) (d234 hw e680) rfl ?_
                          refine r_go (t := 196) c221_187 rfl ?_
                          refine al0 c221_196 ?_
                          refine r_bi c221_197 kB59 ?_
                          obtain ⟨⟨ov681, I682, J683⟩, e684, h⟩ := pm_bd_sp h
                          dsimp only at h
                          refine cz2 q221_199 (μ1 := (I682, J683, P, pm_T0, e)) (d238 hw e684) rfl ?_
                          refine ii2c c221_202 kI1 ?_
                          refine r_go (t := 44) c221_205 rfl ?_
                          exact ih h
                    · rw [if_neg (pm_bf h644)] at h
                      refine r_go (t := 208) c221_154 rfl ?_
                      refine al0 c221_208 ?_
                      refine al0 c221_209 ?_
                      refine r_gi g221_210 (by first | rfl | assumption) rfl ?_
                      obtain ⟨⟨ov685, I686, J687⟩, e688, h⟩ := pm_bd_sp h
                      dsimp only at h
                      refine cv2 q221_213 (v := .int ov685) (μ1 := (I686, J687, P, pm_T0, e)) (d239 hw e688) rfl ?_
                      refine is3 c221_216 rfl ?_
                      refine al0 c221_217 ?_
                      refine r_gi g221_218 (by first | rfl | assumption) rfl ?_
                      refine r_ic c221_221 kIm1 ?_
                      refine r_icne (t := 229) c221_222 rfl (fun h689 => ?_) (fun h689 => ?_)
                      · rw [if_neg h689] at h
                        refine il3 c221_229 ?_
                        cases h
                        exact r_ri c221_230 rt221 rfl rfl
                      · rw [if_pos h689] at h
                        refine al0 c221_225 ?_
                        obtain ⟨⟨ov690, I691, J692⟩, e693, h⟩ := pm_bd_sp h
                        dsimp only at h
                        refine cz1 q221_226 (μ1 := (I691, J692, P, pm_T0, e)) (d217 hw e693) rfl ?_
                        refine il3 c221_229 ?_
                        cases h
                        exact r_ri c221_230 rt221 rfl rfl
              · rw [if_pos h533] at h
                refine al0 c221_111 ?_
                refine r_gi g221_112 (by first | rfl | assumption) rfl ?_
                refine r_bi c221_115 kB8 ?_
                refine r_iceq (t := 138) c221_117 rfl (fun h694 => ?_) (fun h694 => ?_)
                · rw [if_pos h694] at h
                  refine al0 c221_138 ?_
                  refine r_ic c221_139 kI3 ?_
                  refine al0 c221_140 ?_
                  refine r_gi g221_141 (by first | rfl | assumption) rfl ?_
                  obtain ⟨⟨ov695, I696, J697⟩, e698, h⟩ := pm_bd_sp h
                  dsimp only at h
                  refine cz3 q221_144 (μ1 := (I696, J697, P, pm_T0, e)) (d232 hw e698) rfl ?_
                  refine al0 c221_147 ?_
                  refine cv1 q221_148 (d224 hw rfl) rfl ?_
                  refine r_ifne (t := 157) c221_151 rfl (fun h699 => ?_) (fun h699 => ?_)
                  · rw [if_pos (pm_bt h699)] at h
                    refine il3 c221_157 ?_
                    refine r_ifeq (t := 175) c221_158 rfl (fun h700 => ?_) (fun h700 => ?_)
                    · rw [if_neg (pm_bf h700)] at h
                      refine al0 c221_175 ?_
                      obtain ⟨⟨ov701, I702, J703⟩, e704, h⟩ := pm_bd_sp h
                      dsimp only at h
                      refine cz1 q221_176 (μ1 := (I702, J703, P, pm_T0, e)) (d233 hw e704) rfl ?_
                      refine il3 c221_179 ?_
                      refine r_ifeq (t := 190) c221_180 rfl (fun h705 => ?_) (fun h705 => ?_)
                      · rw [if_neg (pm_bf h705)] at h
                        refine al0 c221_190 ?_
                        refine il4 c221_191 ?_
                        obtain ⟨⟨ov706, I707, J708⟩, e709, h⟩ := pm_bd_sp h
                        dsimp only at h
                        refine cz2 q221_193 (μ1 := (I707, J708, P, pm_T0, e)) (d237 hw e709) rfl ?_
                        refine al0 c221_196 ?_
                        refine r_bi c221_197 kB59 ?_
                        obtain ⟨⟨ov710, I711, J712⟩, e713, h⟩ := pm_bd_sp h
                        dsimp only at h
                        refine cz2 q221_199 (μ1 := (I711, J712, P, pm_T0, e)) (d238 hw e713) rfl ?_
                        refine ii2c c221_202 kI1 ?_
                        refine r_go (t := 44) c221_205 rfl ?_
                        exact ih h
                      · rw [if_pos (pm_bt h705)] at h
                        refine al0 c221_183 ?_
                        obtain ⟨⟨ov714, I715, J716⟩, e717, h⟩ := pm_bd_sp h
                        dsimp only at h
                        refine cz1 q221_184 (μ1 := (I715, J716, P, pm_T0, e)) (d234 hw e717) rfl ?_
                        refine r_go (t := 196) c221_187 rfl ?_
                        refine al0 c221_196 ?_
                        refine r_bi c221_197 kB59 ?_
                        obtain ⟨⟨ov718, I719, J720⟩, e721, h⟩ := pm_bd_sp h
                        dsimp only at h
                        refine cz2 q221_199 (μ1 := (I719, J720, P, pm_T0, e)) (d238 hw e721) rfl ?_
                        refine ii2c c221_202 kI1 ?_
                        refine r_go (t := 44) c221_205 rfl ?_
                        exact ih h
                    · rw [if_pos (pm_bt h700)] at h
                      refine al0 c221_161 ?_
                      refine r_dpr c221_162 ?_
                      refine r_gi g221_163 (by first | rfl | assumption) rfl ?_
                      refine r_bi c221_166 kB7 ?_
                      refine r_iadd c221_168 ?_
                      refine w_pi p221_169 (by first | rfl | assumption) rfl ?_
                      rw [pm_lt_eq] at h
                      generalize pm_w I696 127 4 ((I696 127 4) + 7) = I722 at h ⊢
                      refine r_go (t := 179) c221_172 rfl ?_
                      refine il3 c221_179 ?_
                      refine r_ifeq (t := 190) c221_180 rfl (fun h723 => ?_) (fun h723 => ?_)
                      · rw [if_neg (pm_bf h723)] at h
                        refine al0 c221_190 ?_
                        refine il4 c221_191 ?_
                        obtain ⟨⟨ov724, I725, J726⟩, e727, h⟩ := pm_bd_sp h
                        dsimp only at h
                        refine cz2 q221_193 (μ1 := (I725, J726, P, pm_T0, e)) (d237 hw e727) rfl ?_
                        refine al0 c221_196 ?_
                        refine r_bi c221_197 kB59 ?_
                        obtain ⟨⟨ov728, I729, J730⟩, e731, h⟩ := pm_bd_sp h
                        dsimp only at h
                        refine cz2 q221_199 (μ1 := (I729, J730, P, pm_T0, e)) (d238 hw e731) rfl ?_
                        refine ii2c c221_202 kI1 ?_
                        refine r_go (t := 44) c221_205 rfl ?_
                        exact ih h
                      · rw [if_pos (pm_bt h723)] at h
                        refine al0 c221_183 ?_
                        obtain ⟨⟨ov732, I733, J734⟩, e735, h⟩ := pm_bd_sp h
                        dsimp only at h
                        refine cz1 q221_184 (μ1 := (I733, J734, P, pm_T0, e)) (d234 hw e735) rfl ?_
                        refine r_go (t := 196) c221_187 rfl ?_
                        refine al0 c221_196 ?_
                        refine r_bi c221_197 kB59 ?_
                        obtain ⟨⟨ov736, I737, J738⟩, e739, h⟩ := pm_bd_sp h
                        dsimp only at h
                        refine cz2 q221_199 (μ1 := (I737, J738, P, pm_T0, e)) (d238 hw e739) rfl ?_
                        refine ii2c c221_202 kI1 ?_
                        refine r_go (t := 44) c221_205 rfl ?_
                        exact ih h
                  · rw [if_neg (pm_bf h699)] at h
                    refine r_go (t := 208) c221_154 rfl ?_
                    refine al0 c221_208 ?_
                    refine al0 c221_209 ?_
                    refine r_gi g221_210 (by first | rfl | assumption) rfl ?_
                    obtain ⟨⟨ov740, I741, J742⟩, e743, h⟩ := pm_bd_sp h
                    dsimp only at h
                    refine cv2 q221_213 (v := .int ov740) (μ1 := (I741, J742, P, pm_T0, e)) (d239 hw e743) rfl ?_
                    refine is3 c221_216 rfl ?_
                    refine al0 c221_217 ?_
                    refine r_gi g221_218 (by first | rfl | assumption) rfl ?_
                    refine r_ic c221_221 kIm1 ?_
                    refine r_icne (t := 229) c221_222 rfl (fun h744 => ?_) (fun h744 => ?_)
                    · rw [if_neg h744] at h
                      refine il3 c221_229 ?_
                      cases h
                      exact r_ri c221_230 rt221 rfl rfl
                    · rw [if_pos h744] at h
                      refine al0 c221_225 ?_
                      obtain ⟨⟨ov745, I746, J747⟩, e748, h⟩ := pm_bd_sp h
                      dsimp only at h
                      refine cz1 q221_226 (μ1 := (I746, J747, P, pm_T0, e)) (d217 hw e748) rfl ?_
                      refine il3 c221_229 ?_
                      cases h
                      exact r_ri c221_230 rt221 rfl rfl
                · rw [if_neg h694] at h
                  refine il4 c221_120 ?_
                  refine r_ks v221_122 ?_
                  obtain ⟨⟨ov749, I750, J751⟩, e752, h⟩ := pm_bd_sp h
                  dsimp only at h
                  refine cv1 q221_124 (v := .int ov749) (μ1 := (I750, J751, P, pm_T0, e)) (d231 hw (by first | rfl | assumption | decide) e752) rfl ?_
                  refine r_icne (t := 147) c221_127 rfl (fun h753 => ?_) (fun h753 => ?_)
                  · rw [if_neg h753] at h
                    refine al0 c221_147 ?_
                    refine cv1 q221_148 (d224 hw rfl) rfl ?_
                    refine r_ifne (t := 157) c221_151 rfl (fun h754 => ?_) (fun h754 => ?_)
                    · rw [if_pos (pm_bt h754)] at h
                      refine il3 c221_157 ?_
                      refine r_ifeq (t := 175) c221_158 rfl (fun h755 => ?_) (fun h755 => ?_)
                      · rw [if_neg (pm_bf h755)] at h
                        refine al0 c221_175 ?_
                        obtain ⟨⟨ov756, I757, J758⟩, e759, h⟩ := pm_bd_sp h
                        dsimp only at h
                        refine cz1 q221_176 (μ1 := (I757, J758, P, pm_T0, e)) (d233 hw e759) rfl ?_
                        refine il3 c221_179 ?_
                        refine r_ifeq (t := 190) c221_180 rfl (fun h760 => ?_) (fun h760 => ?_)
                        · rw [if_neg (pm_bf h760)] at h
                          refine al0 c221_190 ?_
                          refine il4 c221_191 ?_
                          obtain ⟨⟨ov761, I762, J763⟩, e764, h⟩ := pm_bd_sp h
                          dsimp only at h
                          refine cz2 q221_193 (μ1 := (I762, J763, P, pm_T0, e)) (d237 hw e764) rfl ?_
                          refine al0 c221_196 ?_
                          refine r_bi c221_197 kB59 ?_
                          obtain ⟨⟨ov765, I766, J767⟩, e768, h⟩ := pm_bd_sp h
                          dsimp only at h
                          refine cz2 q221_199 (μ1 := (I766, J767, P, pm_T0, e)) (d238 hw e768) rfl ?_
                          refine ii2c c221_202 kI1 ?_
                          refine r_go (t := 44) c221_205 rfl ?_
                          exact ih h
                        · rw [if_pos (pm_bt h760)] at h
                          refine al0 c221_183 ?_
                          obtain ⟨⟨ov769, I770, J771⟩, e772, h⟩ := pm_bd_sp h
                          dsimp only at h
                          refine cz1 q221_184 (μ1 := (I770, J771, P, pm_T0, e)) (d234 hw e772) rfl ?_
                          refine r_go (t := 196) c221_187 rfl ?_
                          refine al0 c221_196 ?_
                          refine r_bi c221_197 kB59 ?_
                          obtain ⟨⟨ov773, I774, J775⟩, e776, h⟩ := pm_bd_sp h
                          dsimp only at h
                          refine cz2 q221_199 (μ1 := (I774, J775, P, pm_T0, e)) (d238 hw e776) rfl ?_
                          refine ii2c c221_202 kI1 ?_
                          refine r_go (t := 44) c221_205 rfl ?_
                          exact ih h
                      · rw [if_pos (pm_bt h755)] at h
                        refine al0 c221_161 ?_
                        refine r_dpr c221_162 ?_
                        refine r_gi g221_163 (by first | rfl | assumption) rfl ?_
                        refine r_bi c221_166 kB7 ?_
                        refine r_iadd c221_168 ?_
                        refine w_pi p221_169 (by first | rfl | assumption) rfl ?_
                        rw [pm_lt_eq] at h
                        generalize pm_w I750 127 4 ((I750 127 4) + 7) = I777 at h ⊢
                        refine r_go (t := 179) c221_172 rfl ?_
                        refine il3 c221_179 ?_
                        refine r_ifeq (t := 190) c221_180 rfl (fun h778 => ?_) (fun h778 => ?_)
                        · rw [if_neg (pm_bf h778)] at h
                          refine al0 c221_190 ?_
                          refine il4 c221_191 ?_
                          obtain ⟨⟨ov779, I780, J781⟩, e782, h⟩ := pm_bd_sp h
                          dsimp only at h
                          refine cz2 q221_193 (μ1 := (I780, J781, P, pm_T0, e)) (d237 hw e782) rfl ?_
                          refine al0 c221_196 ?_
                          refine r_bi c221_197 kB59 ?_
                          obtain ⟨⟨ov783, I784, J785⟩, e786, h⟩ := pm_bd_sp h
                          dsimp only at h
                          refine cz2 q221_199 (μ1 := (I784, J785, P, pm_T0, e)) (d238 hw e786) rfl ?_
                          refine ii2c c221_202 kI1 ?_
                          refine r_go (t := 44) c221_205 rfl ?_
                          exact ih h
                        · rw [if_pos (pm_bt h778)] at h
                          refine al0 c221_183 ?_
                          obtain ⟨⟨ov787, I788, J789⟩, e790, h⟩ := pm_bd_sp h
                          dsimp only at h
                          refine cz1 q221_184 (μ1 := (I788, J789, P, pm_T0, e)) (d234 hw e790) rfl ?_
                          refine r_go (t := 196) c221_187 rfl ?_
                          refine al0 c221_196 ?_
                          refine r_bi c221_197 kB59 ?_
                          obtain ⟨⟨ov791, I792, J793⟩, e794, h⟩ := pm_bd_sp h
                          dsimp only at h
                          refine cz2 q221_199 (μ1 := (I792, J793, P, pm_T0, e)) (d238 hw e794) rfl ?_
                          refine ii2c c221_202 kI1 ?_
                          refine r_go (t := 44) c221_205 rfl ?_
                          exact ih h
                    · rw [if_neg (pm_bf h754)] at h
                      refine r_go (t := 208) c221_154 rfl ?_
                      refine al0 c221_208 ?_
                      refine al0 c221_209 ?_
                      refine r_gi g221_210 (by first | rfl | assumption) rfl ?_
                      obtain ⟨⟨ov795, I796, J797⟩, e798, h⟩ := pm_bd_sp h
                      dsimp only at h
                      refine cv2 q221_213 (v := .int ov795) (μ1 := (I796, J797, P, pm_T0, e)) (d239 hw e798) rfl ?_
                      refine is3 c221_216 rfl ?_
                      refine al0 c221_217 ?_
                      refine r_gi g221_218 (by first | rfl | assumption) rfl ?_
                      refine r_ic c221_221 kIm1 ?_
                      refine r_icne (t := 229) c221_222 rfl (fun h799 => ?_) (fun h799 => ?_)
                      · rw [if_neg h799] at h
                        refine il3 c221_229 ?_
                        cases h
                        exact r_ri c221_230 rt221 rfl rfl
                      · rw [if_pos h799] at h
                        refine al0 c221_225 ?_
                        obtain ⟨⟨ov800, I801, J802⟩, e803, h⟩ := pm_bd_sp h
                        dsimp only at h
                        refine cz1 q221_226 (μ1 := (I801, J802, P, pm_T0, e)) (d217 hw e803) rfl ?_
                        refine il3 c221_229 ?_
                        cases h
                        exact r_ri c221_230 rt221 rfl rfl
                  · rw [if_pos h753] at h
                    refine al0 c221_130 ?_
                    refine r_gi g221_131 (by first | rfl | assumption) rfl ?_
                    refine r_ic c221_134 kI5 ?_
                    refine r_icne (t := 147) c221_135 rfl (fun h804 => ?_) (fun h804 => ?_)
                    · rw [if_neg h804] at h
                      refine al0 c221_147 ?_
                      refine cv1 q221_148 (d224 hw rfl) rfl ?_
                      refine r_ifne (t := 157) c221_151 rfl (fun h805 => ?_) (fun h805 => ?_)
                      · rw [if_pos (pm_bt h805)] at h
                        refine il3 c221_157 ?_
                        refine r_ifeq (t := 175) c221_158 rfl (fun h806 => ?_) (fun h806 => ?_)
                        · rw [if_neg (pm_bf h806)] at h
                          refine al0 c221_175 ?_
                          obtain ⟨⟨ov807, I808, J809⟩, e810, h⟩ := pm_bd_sp h
                          dsimp only at h
                          refine cz1 q221_176 (μ1 := (I808, J809, P, pm_T0, e)) (d233 hw e810) rfl ?_
                          refine il3 c221_179 ?_
                          refine r_ifeq (t := 190) c221_180 rfl (fun h811 => ?_) (fun h811 => ?_)
                          · rw [if_neg (pm_bf h811)] at h
                            refine al0 c221_190 ?_
                            refine il4 c221_191 ?_
                            obtain ⟨⟨ov812, I813, J814⟩, e815, h⟩ := pm_bd_sp h
                            dsimp only at h
                            refine cz2 q221_193 (μ1 := (I813, J814, P, pm_T0, e)) (d237 hw e815) rfl ?_
                            refine al0 c221_196 ?_
                            refine r_bi c221_197 kB59 ?_
                            obtain ⟨⟨ov816, I817, J818⟩, e819, h⟩ := pm_bd_sp h
                            dsimp only at h
                            refine cz2 q221_199 (μ1 := (I817, J818, P, pm_T0, e)) (d238 hw e819) rfl ?_
                            refine ii2c c221_202 kI1 ?_
                            refine r_go (t := 44) c221_205 rfl ?_
                            exact ih h
                          · rw [if_pos (pm_bt h811)] at h
                            refine al0 c221_183 ?_
                            obtain ⟨⟨ov820, I821, J822⟩, e823, h⟩ := pm_bd_sp h
                            dsimp only at h
                            refine cz1 q221_184 (μ1 := (I821, J822, P, pm_T0, e)) (d234 hw e823) rfl ?_
                            refine r_go (t := 196) c221_187 rfl ?_
                            refine al0 c221_196 ?_
                            refine r_bi c221_197 kB59 ?_
                            obtain ⟨⟨ov824, I825, J826⟩, e827, h⟩ := pm_bd_sp h
                            dsimp only at h
                            refine cz2 q221_199 (μ1 := (I825, J826, P, pm_T0, e)) (d238 hw e827) rfl ?_
                            refine ii2c c221_202 kI1 ?_
                            refine r_go (t := 44) c221_205 rfl ?_
                            exact ih h
                        · rw [if_pos (pm_bt h806)] at h
                          refine al0 c221_161 ?_
                          refine r_dpr c221_162 ?_
                          refine r_gi g221_163 (by first | rfl | assumption) rfl ?_
                          refine r_bi c221_166 kB7 ?_
                          refine r_iadd c221_168 ?_
                          refine w_pi p221_169 (by first | rfl | assumption) rfl ?_
                          rw [pm_lt_eq] at h
                          generalize pm_w I750 127 4 ((I750 127 4) + 7) = I828 at h ⊢
                          refine r_go (t := 179) c221_172 rfl ?_
                          refine il3 c221_179 ?_
                          refine r_ifeq (t := 190) c221_180 rfl (fun h829 => ?_) (fun h829 => ?_)
                          · rw [if_neg (pm_bf h829)] at h
                            refine al0 c221_190 ?_
                            refine il4 c221_191 ?_
                            obtain ⟨⟨ov830, I831, J832⟩, e833, h⟩ := pm_bd_sp h
                            dsimp only at h
                            refine cz2 q221_193 (μ1 := (I831, J832, P, pm_T0, e)) (d237 hw e833) rfl ?_
                            refine al0 c221_196 ?_
                            refine r_bi c221_197 kB59 ?_
                            obtain ⟨⟨ov834, I835, J836⟩, e837, h⟩ := pm_bd_sp h
                            dsimp only at h
                            refine cz2 q221_199 (μ1 := (I835, J836, P, pm_T0, e)) (d238 hw e837) rfl ?_
                            refine ii2c c221_202 kI1 ?_
                            refine r_go (t := 44) c221_205 rfl ?_
                            exact ih h
                          · rw [if_pos (pm_bt h829)] at h
                            refine al0 c221_183 ?_
                            obtain ⟨⟨ov838, I839, J840⟩, e841, h⟩ := pm_bd_sp h
                            dsimp only at h
                            refine cz1 q221_184 (μ1 := (I839, J840, P, pm_T0, e)) (d234 hw e841) rfl ?_
                            refine r_go (t := 196) c221_187 rfl ?_
                            refine al0 c221_196 ?_
                            refine r_bi c221_197 kB59 ?_
                            obtain ⟨⟨ov842, I843, J844⟩, e845, h⟩ := pm_bd_sp h
                            dsimp only at h
                            refine cz2 q221_199 (μ1 := (I843, J844, P, pm_T0, e)) (d238 hw e845) rfl ?_
                            refine ii2c c221_202 kI1 ?_
                            refine r_go (t := 44) c221_205 rfl ?_
                            exact ih h
                      · rw [if_neg (pm_bf h805)] at h
                        refine r_go (t := 208) c221_154 rfl ?_
                        refine al0 c221_208 ?_
                        refine al0 c221_209 ?_
                        refine r_gi g221_210 (by first | rfl | assumption) rfl ?_
                        obtain ⟨⟨ov846, I847, J848⟩, e849, h⟩ := pm_bd_sp h
                        dsimp only at h
                        refine cv2 q221_213 (v := .int ov846) (μ1 := (I847, J848, P, pm_T0, e)) (d239 hw e849) rfl ?_
                        refine is3 c221_216 rfl ?_
                        refine al0 c221_217 ?_
                        refine r_gi g221_218 (by first | rfl | assumption) rfl ?_
                        refine r_ic c221_221 kIm1 ?_
                        refine r_icne (t := 229) c221_222 rfl (fun h850 => ?_) (fun h850 => ?_)
                        · rw [if_neg h850] at h
                          refine il3 c221_229 ?_
                          cases h
                          exact r_ri c221_230 rt221 rfl rfl
                        · rw [if_pos h850] at h
                          refine al0 c221_225 ?_
                          obtain ⟨⟨ov851, I852, J853⟩, e854, h⟩ := pm_bd_sp h
                          dsimp only at h
                          refine cz1 q221_226 (μ1 := (I852, J853, P, pm_T0, e)) (d217 hw e854) rfl ?_
                          refine il3 c221_229 ?_
                          cases h
                          exact r_ri c221_230 rt221 rfl rfl
                    · rw [if_pos h804] at h
                      refine al0 c221_138 ?_
                      refine r_ic c221_139 kI3 ?_
                      refine al0 c221_140 ?_
                      refine r_gi g221_141 (by first | rfl | assumption) rfl ?_
                      obtain ⟨⟨ov855, I856, J857⟩, e858, h⟩ := pm_bd_sp h
                      dsimp only at h
                      refine cz3 q221_144 (μ1 := (I856, J857, P, pm_T0, e)) (d232 hw e858) rfl ?_
                      refine al0 c221_147 ?_
                      refine cv1 q221_148 (d224 hw rfl) rfl ?_
                      refine r_ifne (t := 157) c221_151 rfl (fun h859 => ?_) (fun h859 => ?_)
                      · rw [if_pos (pm_bt h859)] at h
                        refine il3 c221_157 ?_
                        refine r_ifeq (t := 175) c221_158 rfl (fun h860 => ?_) (fun h860 => ?_)
                        · rw [if_neg (pm_bf h860)] at h
                          refine al0 c221_175 ?_
                          obtain ⟨⟨ov861, I862, J863⟩, e864, h⟩ := pm_bd_sp h
                          dsimp only at h
                          refine cz1 q221_176 (μ1 := (I862, J863, P, pm_T0, e)) (d233 hw e864) rfl ?_
                          refine il3 c221_179 ?_
                          refine r_ifeq (t := 190) c221_180 rfl (fun h865 => ?_) (fun h865 => ?_)
                          · rw [if_neg (pm_bf h865)] at h
                            refine al0 c221_190 ?_
                            refine il4 c221_191 ?_
                            obtain ⟨⟨ov866, I867, J868⟩, e869, h⟩ := pm_bd_sp h
                            dsimp only at h
                            refine cz2 q221_193 (μ1 := (I867, J868, P, pm_T0, e)) (d237 hw e869) rfl ?_
                            refine al0 c221_196 ?_
                            refine r_bi c221_197 kB59 ?_
                            obtain ⟨⟨ov870, I871, J872⟩, e873, h⟩ := pm_bd_sp h
                            dsimp only at h
                            refine cz2 q221_199 (μ1 := (I871, J872, P, pm_T0, e)) (d238 hw e873) rfl ?_
                            refine ii2c c221_202 kI1 ?_
                            refine r_go (t := 44) c221_205 rfl ?_
                            exact ih h
                          · rw [if_pos (pm_bt h865)] at h
                            refine al0 c221_183 ?_
                            obtain ⟨⟨ov874, I875, J876⟩, e877, h⟩ := pm_bd_sp h
                            dsimp only at h
                            refine cz1 q221_184 (μ1 := (I875, J876, P, pm_T0, e)) (d234 hw e877) rfl ?_
                            refine r_go (t := 196) c221_187 rfl ?_
                            refine al0 c221_196 ?_
                            refine r_bi c221_197 kB59 ?_
                            obtain ⟨⟨ov878, I879, J880⟩, e881, h⟩ := pm_bd_sp h
                            dsimp only at h
                            refine cz2 q221_199 (μ1 := (I879, J880, P, pm_T0, e)) (d238 hw e881) rfl ?_
                            refine ii2c c221_202 kI1 ?_
                            refine r_go (t := 44) c221_205 rfl ?_
                            exact ih h
                        · rw [if_pos (pm_bt h860)] at h
                          refine al0 c221_161 ?_
                          refine r_dpr c221_162 ?_
                          refine r_gi g221_163 (by first | rfl | assumption) rfl ?_
                          refine r_bi c221_166 kB7 ?_
                          refine r_iadd c221_168 ?_
                          refine w_pi p221_169 (by first | rfl | assumption) rfl ?_
                          rw [pm_lt_eq] at h
                          generalize pm_w I856 127 4 ((I856 127 4) + 7) = I882 at h ⊢
                          refine r_go (t := 179) c221_172 rfl ?_
                          refine il3 c221_179 ?_
                          refine r_ifeq (t := 190) c221_180 rfl (fun h883 => ?_) (fun h883 => ?_)
                          · rw [if_neg (pm_bf h883)] at h
                            refine al0 c221_190 ?_
                            refine il4 c221_191 ?_
                            obtain ⟨⟨ov884, I885, J886⟩, e887, h⟩ := pm_bd_sp h
                            dsimp only at h
                            refine cz2 q221_193 (μ1 := (I885, J886, P, pm_T0, e)) (d237 hw e887) rfl ?_
                            refine al0 c221_196 ?_
                            refine r_bi c221_197 kB59 ?_
                            obtain ⟨⟨ov888, I889, J890⟩, e891, h⟩ := pm_bd_sp h
                            dsimp only at h
                            refine cz2 q221_199 (μ1 := (I889, J890, P, pm_T0, e)) (d238 hw e891) rfl ?_
                            refine ii2c c221_202 kI1 ?_
                            refine r_go (t := 44) c221_205 rfl ?_
                            exact ih h
                          · rw [if_pos (pm_bt h883)] at h
                            refine al0 c221_183 ?_
                            obtain ⟨⟨ov892, I893, J894⟩, e895, h⟩ := pm_bd_sp h
                            dsimp only at h
                            refine cz1 q221_184 (μ1 := (I893, J894, P, pm_T0, e)) (d234 hw e895) rfl ?_
                            refine r_go (t := 196) c221_187 rfl ?_
                            refine al0 c221_196 ?_
                            refine r_bi c221_197 kB59 ?_
                            obtain ⟨⟨ov896, I897, J898⟩, e899, h⟩ := pm_bd_sp h
                            dsimp only at h
                            refine cz2 q221_199 (μ1 := (I897, J898, P, pm_T0, e)) (d238 hw e899) rfl ?_
                            refine ii2c c221_202 kI1 ?_
                            refine r_go (t := 44) c221_205 rfl ?_
                            exact ih h
                      · rw [if_neg (pm_bf h859)] at h
                        refine r_go (t := 208) c221_154 rfl ?_
                        refine al0 c221_208 ?_
                        refine al0 c221_209 ?_
                        refine r_gi g221_210 (by first | rfl | assumption) rfl ?_
                        obtain ⟨⟨ov900, I901, J902⟩, e903, h⟩ := pm_bd_sp h
                        dsimp only at h
                        refine cv2 q221_213 (v := .int ov900) (μ1 := (I901, J902, P, pm_T0, e)) (d239 hw e903) rfl ?_
                        refine is3 c221_216 rfl ?_
                        refine al0 c221_217 ?_
                        refine r_gi g221_218 (by first | rfl | assumption) rfl ?_
                        refine r_ic c221_221 kIm1 ?_
                        refine r_icne (t := 229) c221_222 rfl (fun h904 => ?_) (fun h904 => ?_)
                        · rw [if_neg h904] at h
                          refine il3 c221_229 ?_
                          cases h
                          exact r_ri c221_230 rt221 rfl rfl
                        · rw [if_pos h904] at h
                          refine al0 c221_225 ?_
                          obtain ⟨⟨ov905, I906, J907⟩, e908, h⟩ := pm_bd_sp h
                          dsimp only at h
                          refine cz1 q221_226 (μ1 := (I906, J907, P, pm_T0, e)) (d217 hw e908) rfl ?_
                          refine il3 c221_229 ?_
                          cases h
                          exact r_ri c221_230 rt221 rfl rfl
          · rw [if_neg (pm_bf h473)] at h
            refine al0 c221_83 ?_
            refine r_ic c221_84 kI1 ?_
            refine al0 c221_85 ?_
            refine r_gi g221_86 (by first | rfl | assumption) rfl ?_
            obtain ⟨⟨ov909, I910, J911⟩, e912, h⟩ := pm_bd_sp h
            dsimp only at h
            refine cz3 q221_89 (μ1 := (I910, J911, P, pm_T0, e)) (d232 hw e912) rfl ?_
            refine r_go (t := 147) c221_92 rfl ?_
            refine al0 c221_147 ?_
            refine cv1 q221_148 (d224 hw rfl) rfl ?_
            refine r_ifne (t := 157) c221_151 rfl (fun h913 => ?_) (fun h913 => ?_)
            · rw [if_pos (pm_bt h913)] at h
              refine il3 c221_157 ?_
              refine r_ifeq (t := 175) c221_158 rfl (fun h914 => ?_) (fun h914 => ?_)
              · rw [if_neg (pm_bf h914)] at h
                refine al0 c221_175 ?_
                obtain ⟨⟨ov915, I916, J917⟩, e918, h⟩ := pm_bd_sp h
                dsimp only at h
                refine cz1 q221_176 (μ1 := (I916, J917, P, pm_T0, e)) (d233 hw e918) rfl ?_
                refine il3 c221_179 ?_
                refine r_ifeq (t := 190) c221_180 rfl (fun h919 => ?_) (fun h919 => ?_)
                · rw [if_neg (pm_bf h919)] at h
                  refine al0 c221_190 ?_
                  refine il4 c221_191 ?_
                  obtain ⟨⟨ov920, I921, J922⟩, e923, h⟩ := pm_bd_sp h
                  dsimp only at h
                  refine cz2 q221_193 (μ1 := (I921, J922, P, pm_T0, e)) (d237 hw e923) rfl ?_
                  refine al0 c221_196 ?_
                  refine r_bi c221_197 kB59 ?_
                  obtain ⟨⟨ov924, I925, J926⟩, e927, h⟩ := pm_bd_sp h
                  dsimp only at h
                  refine cz2 q221_199 (μ1 := (I925, J926, P, pm_T0, e)) (d238 hw e927) rfl ?_
                  refine ii2c c221_202 kI1 ?_
                  refine r_go (t := 44) c221_205 rfl ?_
                  exact ih h
                · rw [if_pos (pm_bt h919)] at h
                  refine al0 c221_183 ?_
                  obtain ⟨⟨ov928, I929, J930⟩, e931, h⟩ := pm_bd_sp h
                  dsimp only at h
                  refine cz1 q221_184 (μ1 := (I929, J930, P, pm_T0, e)) (d234 hw e931) rfl ?_
                  refine r_go (t := 196) c221_187 rfl ?_
                  refine al0 c221_196 ?_
                  refine r_bi c221_197 kB59 ?_
                  obtain ⟨⟨ov932, I933, J934⟩, e935, h⟩ := pm_bd_sp h
                  dsimp only at h
                  refine cz2 q221_199 (μ1 := (I933, J934, P, pm_T0, e)) (d238 hw e935) rfl ?_
                  refine ii2c c221_202 kI1 ?_
                  refine r_go (t := 44) c221_205 rfl ?_
                  exact ih h
              · rw [if_pos (pm_bt h914)] at h
                refine al0 c221_161 ?_
                refine r_dpr c221_162 ?_
                refine r_gi g221_163 (by first | rfl | assumption) rfl ?_
                refine r_bi c221_166 kB7 ?_
                refine r_iadd c221_168 ?_
                refine w_pi p221_169 (by first | rfl | assumption) rfl ?_
                rw [pm_lt_eq] at h
                generalize pm_w I910 127 4 ((I910 127 4) + 7) = I936 at h ⊢
                refine r_go (t := 179) c221_172 rfl ?_
                refine il3 c221_179 ?_
                refine r_ifeq (t := 190) c221_180 rfl (fun h937 => ?_) (fun h937 => ?_)
                · rw [if_neg (pm_bf h937)] at h
                  refine al0 c221_190 ?_
                  refine il4 c221_191 ?_
                  obtain ⟨⟨ov938, I939, J940⟩, e941, h⟩ := pm_bd_sp h
                  dsimp only at h
                  refine cz2 q221_193 (μ1 := (I939, J940, P, pm_T0, e)) (d237 hw e941) rfl ?_
                  refine al0 c221_196 ?_
                  refine r_bi c221_197 kB59 ?_
                  obtain ⟨⟨ov942, I943, J944⟩, e945, h⟩ := pm_bd_sp h
                  dsimp only at h
                  refine cz2 q221_199 (μ1 := (I943, J944, P, pm_T0, e)) (d238 hw e945) rfl ?_
                  refine ii2c c221_202 kI1 ?_
                  refine r_go (t := 44) c221_205 rfl ?_
                  exact ih h
                · rw [if_pos (pm_bt h937)] at h
                  refine al0 c221_183 ?_
                  obtain ⟨⟨ov946, I947, J948⟩, e949, h⟩ := pm_bd_sp h
                  dsimp only at h
                  refine cz1 q221_184 (μ1 := (I947, J948, P, pm_T0, e)) (d234 hw e949) rfl ?_
                  refine r_go (t := 196) c221_187 rfl ?_
                  refine al0 c221_196 ?_
                  refine r_bi c221_197 kB59 ?_
                  obtain ⟨⟨ov950, I951, J952⟩, e953, h⟩ := pm_bd_sp h
                  dsimp only at h
                  refine cz2 q221_199 (μ1 := (I951, J952, P, pm_T0, e)) (d238 hw e953) rfl ?_
                  refine ii2c c221_202 kI1 ?_
                  refine r_go (t := 44) c221_205 rfl ?_
                  exact ih h
            · rw [if_neg (pm_bf h913)] at h
              refine r_go (t := 208) c221_154 rfl ?_
              refine al0 c221_208 ?_
              refine al0 c221_209 ?_
              refine r_gi g221_210 (by first | rfl | assumption) rfl ?_
              obtain ⟨⟨ov954, I955, J956⟩, e957, h⟩ := pm_bd_sp h
              dsimp only at h
              refine cv2 q221_213 (v := .int ov954) (μ1 := (I955, J956, P, pm_T0, e)) (d239 hw e957) rfl ?_
              refine is3 c221_216 rfl ?_
              refine al0 c221_217 ?_
              refine r_gi g221_218 (by first | rfl | assumption) rfl ?_
              refine r_ic c221_221 kIm1 ?_
              refine r_icne (t := 229) c221_222 rfl (fun h958 => ?_) (fun h958 => ?_)
              · rw [if_neg h958] at h
                refine il3 c221_229 ?_
                cases h
                exact r_ri c221_230 rt221 rfl rfl
              · rw [if_pos h958] at h
                refine al0 c221_225 ?_
                obtain ⟨⟨ov959, I960, J961⟩, e962, h⟩ := pm_bd_sp h
                dsimp only at h
                refine cz1 q221_226 (μ1 := (I960, J961, P, pm_T0, e)) (d217 hw e962) rfl ?_
                refine il3 c221_229 ?_
                cases h
                exact r_ri c221_230 rt221 rfl rfl
theorem d221 {X : (Nat → Int32) × Nat} {d : Nat} {I : Nat → Nat → Int32} {J : Nat → Nat → Int64} {P : Nat → Nat → Value} {e r k r2 k2 : Nat} {x1 : Int32} {q : Int32 × (Nat → Nat → Int32) × (Nat → Nat → Int64)} (hw : pm_W P r k r2 k2)  (h : f221 x1 I J = some q) : pm_Fn X (d + 7) 221 1 [.ref 127, .int x1] (I, J, P, pm_T0, e) (.inl (some (.int q.1))) (q.2.1, q.2.2, P, pm_T0, e) := by
  obtain ⟨hp, hw1, hw2, hw3, hw4, hw5, hw6, hw7, hw8, hw9, hw10, hw11⟩ := id hw
  have hwa := hw5.1
  have hwb := hw6.1
  have hwc := hw7.1
  have hwd := hw8.1
  unfold f221 at h
  refine fn_v rc221 (c := 12) (nf := 59) (by first | rfl | assumption) ml221 rfl rfl rfl rfl ?_
  refine al0 c221_0 ?_
  refine r_ic c221_1 kI0 ?_
  refine w_pi p221_2 (by first | rfl | assumption) rfl ?_
  rw [pm_lt_eq] at h
  generalize pm_w I 127 0 0 = I1 at h ⊢
  refine al0 c221_5 ?_
  refine il1 c221_6 ?_
  refine r_iflt (t := 22) c221_7 rfl (fun h2 => ?_) (fun h2 => ?_)
  · rw [if_pos h2] at h
    refine r_ic c221_22 kI0 ?_
    refine r_ic c221_23 kI1 ?_
    refine r_ic c221_24 kI1 ?_
    obtain ⟨⟨ov3, I4, J5⟩, e6, h⟩ := pm_bd_sp h
    dsimp only at h
    refine cv4 q221_25 (v := .int (pm_bi ov3)) (μ1 := (I4, J5, P, pm_T0, e)) (d222 hw e6) rfl ?_
    refine r_ifne (t := 33) c221_28 rfl (fun h7 => ?_) (fun h7 => ?_)
    · rw [if_pos (pm_bt h7)] at h
      refine al0 c221_33 ?_
      refine il1 c221_34 ?_
      obtain ⟨⟨ov8, I9, J10⟩, e11, h⟩ := pm_bd_sp h
      dsimp only at h
      refine cz2 q221_35 (μ1 := (I9, J10, P, pm_T0, e)) (d223 hw e11) rfl ?_
      refine al0 c221_38 ?_
      obtain ⟨⟨ov12, I13, J14⟩, e15, h⟩ := pm_bd_sp h
      dsimp only at h
      refine cz1 q221_39 (μ1 := (I13, J14, P, pm_T0, e)) (d216 hw e15) rfl ?_
      refine r_ic c221_42 kI0 ?_
      refine is2 c221_43 rfl ?_
      exact d221_44 hw pm_FU h
    · rw [if_neg (pm_bf h7)] at h
      refine r_ic c221_31 kI0 ?_
      cases h
      exact r_ri c221_32 rt221 rfl rfl
  · rw [if_neg (Int.not_lt.mpr h2)] at h
    refine il1 c221_10 ?_
    refine al0 c221_11 ?_
    refine r_gi g221_12 (by first | rfl | assumption) rfl ?_
    refine r_icgt (t := 22) c221_15 rfl (fun h16 => ?_) (fun h16 => ?_)
    · rw [if_pos h16] at h
      refine r_ic c221_22 kI0 ?_
      refine r_ic c221_23 kI1 ?_
      refine r_ic c221_24 kI1 ?_
      obtain ⟨⟨ov17, I18, J19⟩, e20, h⟩ := pm_bd_sp h
      dsimp only at h
      refine cv4 q221_25 (v := .int (pm_bi ov17)) (μ1 := (I18, J19, P, pm_T0, e)) (d222 hw e20) rfl ?_
      refine r_ifne (t := 33) c221_28 rfl (fun h21 => ?_) (fun h21 => ?_)
      · rw [if_pos (pm_bt h21)] at h
        refine al0 c221_33 ?_
        refine il1 c221_34 ?_
        obtain ⟨⟨ov22, I23, J24⟩, e25, h⟩ := pm_bd_sp h
        dsimp only at h
        refine cz2 q221_35 (μ1 := (I23, J24, P, pm_T0, e)) (d223 hw e25) rfl ?_
        refine al0 c221_38 ?_
        obtain ⟨⟨ov26, I27, J28⟩, e29, h⟩ := pm_bd_sp h
        dsimp only at h
        refine cz1 q221_39 (μ1 := (I27, J28, P, pm_T0, e)) (d216 hw e29) rfl ?_
        refine r_ic c221_42 kI0 ?_
        refine is2 c221_43 rfl ?_
        exact d221_44 hw pm_FU h
      · rw [if_neg (pm_bf h21)] at h
        refine r_ic c221_31 kI0 ?_
        cases h
        exact r_ri c221_32 rt221 rfl rfl
    · rw [if_neg (Int.not_lt.mpr h16)] at h
      refine r_ic c221_18 kI1 ?_
      refine r_go (t := 23) c221_19 rfl ?_
      refine r_ic c221_23 kI1 ?_
      refine r_ic c221_24 kI1 ?_
      obtain ⟨⟨ov30, I31, J32⟩, e33, h⟩ := pm_bd_sp h
      dsimp only at h
      refine cv4 q221_25 (v := .int (pm_bi ov30)) (μ1 := (I31, J32, P, pm_T0, e)) (d222 hw e33) rfl ?_
      refine r_ifne (t := 33) c221_28 rfl (fun h34 => ?_) (fun h34 => ?_)
      · rw [if_pos (pm_bt h34)] at h
        refine al0 c221_33 ?_
        refine il1 c221_34 ?_
        obtain ⟨⟨ov35, I36, J37⟩, e38, h⟩ := pm_bd_sp h
        dsimp only at h
        refine cz2 q221_35 (μ1 := (I36, J37, P, pm_T0, e)) (d223 hw e38) rfl ?_
        refine al0 c221_38 ?_
        obtain ⟨⟨ov39, I40, J41⟩, e42, h⟩ := pm_bd_sp h
        dsimp only at h
        refine cz1 q221_39 (μ1 := (I40, J41, P, pm_T0, e)) (d216 hw e42) rfl ?_
        refine r_ic c221_42 kI0 ?_
        refine is2 c221_43 rfl ?_
        exact d221_44 hw pm_FU h
      · rw [if_neg (pm_bf h34)] at h
        refine r_ic c221_31 kI0 ?_
        cases h
        exact r_ri c221_32 rt221 rfl rfl
