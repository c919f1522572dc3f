/-! THE METHODS AS FUNCTIONS OF THE MEMORY (written by dec.py) -/
def f297 (x1 : Int32) (I : Nat → Nat → Int32) (J : Nat → Nat → Int64) : Option (Int32 × (Nat → Nat → Int32) × (Nat → Nat → Int64)) := pm_lt (pm_w I 127 0 0) (fun I1 => (f277 x1 1 I1 J).bind (fun (ov2, I3, J4) => (if ov2 = true then (f253  I3 J4).bind (fun (ov7, I8, J9) => pm_gd (pm_in (0 + x1) 66) ((if (I8 144 (0 + x1).toNatClampNeg) = 0 then some ((-1), I8, J9) else (f263 x1 I8 J9).bind (fun (ov13, I14, J15) => some (ov13 / 4, I14, J15))))) else some (0, I3, J4))))
theorem d297 {X : (Nat → Int32) × Nat} {d : Nat} {I : Nat → Nat → Int32} {J : Nat → Nat → Int64} {P : Nat → Nat → Value} {e r k r2 k2 : Nat} {x1 : Int32} {q : Int32 × (Nat → Nat → Int32) × (Nat → Nat → Int64)} (hw : pm_W P r k r2 k2)  (h : f297 x1 I J = some q) : pm_Fn X (d + 6) 297 1 [.ref 127, .int x1] (I, J, P, pm_T0, e) (.inl (some (.int q.1))) (q.2.1, q.2.2, P, pm_T0, e) := by
  obtain ⟨hp, hw1, hw2, hw3, hw4, hw5, hw6, hw7, hw8, hw9, hw10, hw11⟩ := id hw
  have hwa := hw5.1
  have hwb := hw6.1
  have hwc := hw7.1
  have hwd := hw8.1
  unfold f297 at h
  refine fn_v rc297 (c := 12) (nf := 59) (by first | rfl | assumption) ml297 rfl rfl rfl rfl ?_
  refine al0 c297_0 ?_
  refine r_ic c297_1 kI0 ?_
  refine w_pi p297_2 (by first | rfl | assumption) rfl ?_
  rw [pm_lt_eq] at h
  generalize pm_w I 127 0 0 = I1 at h ⊢
  refine al0 c297_5 ?_
  refine il1 c297_6 ?_
  refine r_ic c297_7 kI1 ?_
  obtain ⟨⟨ov2, I3, J4⟩, e5, h⟩ := pm_bd_sp h
  dsimp only at h
  refine cv3 q297_8 (v := .int (pm_bi ov2)) (μ1 := (I3, J4, P, pm_T0, e)) (d277 hw e5) rfl ?_
  refine r_ifne (t := 16) c297_11 rfl (fun h6 => ?_) (fun h6 => ?_)
  · rw [if_pos (pm_bt h6)] at h
    refine al0 c297_16 ?_
    obtain ⟨⟨ov7, I8, J9⟩, e10, h⟩ := pm_bd_sp h
    dsimp only at h
    refine cz1 q297_17 (μ1 := (I8, J9, P, pm_T0, e)) (d253 hw e10) rfl ?_
    refine al0 c297_20 ?_
    refine r_gr g297_21 rfl rfl (hp _ _ _ rfl) ?_
    refine r_ic c297_24 kI0 ?_
    refine il1 c297_25 ?_
    refine r_iadd c297_26 ?_
    obtain ⟨gd11, h⟩ := pm_gd_sp h
    refine w_ia c297_27 (by first | rfl | assumption) gd11 ?_
    refine r_ifne (t := 35) c297_28 rfl (fun h12 => ?_) (fun h12 => ?_)
    · rw [if_neg h12] at h
      refine al0 c297_35 ?_
      refine il1 c297_36 ?_
      obtain ⟨⟨ov13, I14, J15⟩, e16, h⟩ := pm_bd_sp h
      dsimp only at h
      refine cv2 q297_37 (v := .int ov13) (μ1 := (I14, J15, P, pm_T0, e)) (d263 hw e16) rfl ?_
      refine r_ic c297_40 kI4 ?_
      refine r_idiv c297_41 (by decide) ?_
      cases h
      exact r_ri c297_42 rt297 rfl rfl
    · rw [if_pos h12] at h
      refine r_ic c297_31 kIm1 ?_
      refine r_go (t := 42) c297_32 rfl ?_
      cases h
      exact r_ri c297_42 rt297 rfl rfl
  · rw [if_neg (pm_bf h6)] at h
    refine r_ic c297_14 kI0 ?_
    cases h
    exact r_ri c297_15 rt297 rfl rfl
def f298 (x1 : Int32) (I : Nat → Nat → Int32) (J : Nat → Nat → Int64) : Option (Bool × (Nat → Nat → Int32) × (Nat → Nat → Int64)) := pm_lt (pm_w I 127 0 0) (fun I1 => (f277 x1 1 I1 J).bind (fun (ov2, I3, J4) => (if ov2 = true then (f253  I3 J4).bind (fun (ov7, I8, J9) => (f262 x1 I8 J9).bind (fun (ov11, I12, J13) => some (ov11, I12, J13))) else some (false, I3, J4))))
theorem d298 {X : (Nat → Int32) × Nat} {d : Nat} {I : Nat → Nat → Int32} {J : Nat → Nat → Int64} {P : Nat → Nat → Value} {e r k r2 k2 : Nat} {x1 : Int32} {q : Bool × (Nat → Nat → Int32) × (Nat → Nat → Int64)} (hw : pm_W P r k r2 k2)  (h : f298 x1 I J = some q) : pm_Fn X (d + 7) 298 1 [.ref 127, .int x1] (I, J, P, pm_T0, e) (.inl (some (.int (pm_bi q.1)))) (q.2.1, q.2.2, P, pm_T0, e) := by
  obtain ⟨hp, hw1, hw2, hw3, hw4, hw5, hw6, hw7, hw8, hw9, hw10, hw11⟩ := id hw
  have hwa := hw5.1
  have hwb := hw6.1
  have hwc := hw7.1
  have hwd := hw8.1
  unfold f298 at h
  refine fn_v rc298 (c := 12) (nf := 59) (by first | rfl | assumption) ml298 rfl rfl rfl rfl ?_
  refine al0 c298_0 ?_
  refine r_ic c298_1 kI0 ?_
  refine w_pi p298_2 (by first | rfl | assumption) rfl ?_
  rw [pm_lt_eq] at h
  generalize pm_w I 127 0 0 = I1 at h ⊢
  refine al0 c298_5 ?_
  refine il1 c298_6 ?_
  refine r_ic c298_7 kI1 ?_
  obtain ⟨⟨ov2, I3, J4⟩, e5, h⟩ := pm_bd_sp h
  dsimp only at h
  refine cv3 q298_8 (v := .int (pm_bi ov2)) (μ1 := (I3, J4, P, pm_T0, e)) (d277 hw e5) rfl ?_
  refine r_ifne (t := 16) c298_11 rfl (fun h6 => ?_) (fun h6 => ?_)
  · rw [if_pos (pm_bt h6)] at h
    refine al0 c298_16 ?_
    obtain ⟨⟨ov7, I8, J9⟩, e10, h⟩ := pm_bd_sp h
    dsimp only at h
    refine cz1 q298_17 (μ1 := (I8, J9, P, pm_T0, e)) (d253 hw e10) rfl ?_
    refine al0 c298_20 ?_
    refine il1 c298_21 ?_
    obtain ⟨⟨ov11, I12, J13⟩, e14, h⟩ := pm_bd_sp h
    dsimp only at h
    refine cv2 q298_22 (v := .int (pm_bi ov11)) (μ1 := (I12, J13, P, pm_T0, e)) (d262 hw e14) rfl ?_
    cases h
    exact r_rz c298_25 rt298 (pm_bi01 _) rfl rfl
  · rw [if_neg (pm_bf h6)] at h
    refine r_ic c298_14 kI0 ?_
    cases h
    exact r_rz c298_15 rt298 (by decide) rfl rfl
def f299 (x1 : Int32) (I : Nat → Nat → Int32) (J : Nat → Nat → Int64) : Option (Int32 × (Nat → Nat → Int32) × (Nat → Nat → Int64)) := pm_lt (pm_w I 127 0 0) (fun I1 => (f222 (pm_bi (v241 x1 0 99 I1)) 1 1 I1 J).bind (fun (ov2, I3, J4) => (if ov2 = true then (f253  I3 J4).bind (fun (ov7, I8, J9) => (f257 0 I8 J9).bind (fun (ov11, I12, J13) => some (ov11 * x1, I12, J13))) else some (0, I3, J4))))
theorem d299 {X : (Nat → Int32) × Nat} {d : Nat} {I : Nat → Nat → Int32} {J : Nat → Nat → Int64} {P : Nat → Nat → Value} {e r k r2 k2 : Nat} {x1 : Int32} {q : Int32 × (Nat → Nat → Int32) × (Nat → Nat → Int64)} (hw : pm_W P r k r2 k2)  (h : f299 x1 I J = some q) : pm_Fn X (d + 2) 299 1 [.ref 127, .int x1] (I, J, P, pm_T0, e) (.inl (some (.int q.1))) (q.2.1, q.2.2, P, pm_T0, e) := by
  obtain ⟨hp, hw1, hw2, hw3, hw4, hw5, hw6, hw7, hw8, hw9, hw10, hw11⟩ := id hw
  have hwa := hw5.1
  have hwb := hw6.1
  have hwc := hw7.1
  have hwd := hw8.1
  unfold f299 at h
  refine fn_v rc299 (c := 12) (nf := 59) (by first | rfl | assumption) ml299 rfl rfl rfl rfl ?_
  refine al0 c299_0 ?_
  refine r_ic c299_1 kI0 ?_
  refine w_pi p299_2 (by first | rfl | assumption) rfl ?_
  rw [pm_lt_eq] at h
  generalize pm_w I 127 0 0 = I1 at h ⊢
  refine al0 c299_5 ?_
  refine il1 c299_6 ?_
  refine r_ic c299_7 kI0 ?_
  refine r_bi c299_8 kB99 ?_
  refine cv3 q299_10 (d241 hw rfl) rfl ?_
  refine r_ic c299_13 kI1 ?_
  refine r_ic c299_14 kI1 ?_
  obtain ⟨⟨ov2, I3, J4⟩, e5, h⟩ := pm_bd_sp h
  dsimp only at h
  refine cv4 q299_15 (v := .int (pm_bi ov2)) (μ1 := (I3, J4, P, pm_T0, e)) (d222 hw e5) rfl ?_
  refine r_ifne (t := 23) c299_18 rfl (fun h6 => ?_) (fun h6 => ?_)
  · rw [if_pos (pm_bt h6)] at h
    refine al0 c299_23 ?_
    obtain ⟨⟨ov7, I8, J9⟩, e10, h⟩ := pm_bd_sp h
    dsimp only at h
    refine cz1 q299_24 (μ1 := (I8, J9, P, pm_T0, e)) (d253 hw e10) rfl ?_
    refine al0 c299_27 ?_
    refine r_ic c299_28 kI0 ?_
    obtain ⟨⟨ov11, I12, J13⟩, e14, h⟩ := pm_bd_sp h
    dsimp only at h
    refine cv2 q299_29 (v := .int ov11) (μ1 := (I12, J13, P, pm_T0, e)) (d257 hw e14) rfl ?_
    refine il1 c299_32 ?_
    refine r_imul c299_33 ?_
    cases h
    exact r_ri c299_34 rt299 rfl rfl
  · rw [if_neg (pm_bf h6)] at h
    refine r_ic c299_21 kI0 ?_
    cases h
    exact r_ri c299_22 rt299 rfl rfl
def f300 (x1 : Int32) (I : Nat → Nat → Int32) (J : Nat → Nat → Int64) : Option (Int32 × (Nat → Nat → Int32) × (Nat → Nat → Int64)) := pm_lt (pm_w I 127 0 0) (fun I1 => (f222 (pm_bi (v241 x1 0 99 I1)) 1 1 I1 J).bind (fun (ov2, I3, J4) => (if ov2 = true then (f253  I3 J4).bind (fun (ov7, I8, J9) => (f257 0 I8 J9).bind (fun (ov11, I12, J13) => (if ov11 = 0 then some ((-1), I12, J13) else pm_gd (pm_in 65 66) ((f257 0 I12 J13).bind (fun (ov17, I18, J19) => pm_gd (!decide (ov17 = 0)) ((if ((I12 144 (65 : Int32).toNatClampNeg) / ov17).toInt < x1.toInt then some ((I12 144 (65 : Int32).toNatClampNeg) / ov17, I18, J19) else some (x1, I18, J19)))))))) else some (0, I3, J4))))
theorem d300 {X : (Nat → Int32) × Nat} {d : Nat} {I : Nat → Nat → Int32} {J : Nat → Nat → Int64} {P : Nat → Nat → Value} {e r k r2 k2 : Nat} {x1 : Int32} {q : Int32 × (Nat → Nat → Int32) × (Nat → Nat → Int64)} (hw : pm_W P r k r2 k2)  (h : f300 x1 I J = some q) : pm_Fn X (d + 2) 300 1 [.ref 127, .int x1] (I, J, P, pm_T0, e) (.inl (some (.int q.1))) (q.2.1, q.2.2, P, pm_T0, e) := by
  obtain ⟨hp, hw1, hw2, hw3, hw4, hw5, hw6, hw7, hw8, hw9, hw10, hw11⟩ := id hw
  have hwa := hw5.1
  have hwb := hw6.1
  have hwc := hw7.1
  have hwd := hw8.1
  unfold f300 at h
  refine fn_v rc300 (c := 12) (nf := 59) (by first | rfl | assumption) ml300 rfl rfl rfl rfl ?_
  refine al0 c300_0 ?_
  refine r_ic c300_1 kI0 ?_
  refine w_pi p300_2 (by first | rfl | assumption) rfl ?_
  rw [pm_lt_eq] at h
  generalize pm_w I 127 0 0 = I1 at h ⊢
  refine al0 c300_5 ?_
  refine il1 c300_6 ?_
  refine r_ic c300_7 kI0 ?_
  refine r_bi c300_8 kB99 ?_
  refine cv3 q300_10 (d241 hw rfl) rfl ?_
  refine r_ic c300_13 kI1 ?_
  refine r_ic c300_14 kI1 ?_
  obtain ⟨⟨ov2, I3, J4⟩, e5, h⟩ := pm_bd_sp h
  dsimp only at h
  refine cv4 q300_15 (v := .int (pm_bi ov2)) (μ1 := (I3, J4, P, pm_T0, e)) (d222 hw e5) rfl ?_
  refine r_ifne (t := 23) c300_18 rfl (fun h6 => ?_) (fun h6 => ?_)
  · rw [if_pos (pm_bt h6)] at h
    refine al0 c300_23 ?_
    obtain ⟨⟨ov7, I8, J9⟩, e10, h⟩ := pm_bd_sp h
    dsimp only at h
    refine cz1 q300_24 (μ1 := (I8, J9, P, pm_T0, e)) (d253 hw e10) rfl ?_
    refine al0 c300_27 ?_
    refine r_ic c300_28 kI0 ?_
    obtain ⟨⟨ov11, I12, J13⟩, e14, h⟩ := pm_bd_sp h
    dsimp only at h
    refine cv2 q300_29 (v := .int ov11) (μ1 := (I12, J13, P, pm_T0, e)) (d257 hw e14) rfl ?_
    refine r_ifne (t := 37) c300_32 rfl (fun h15 => ?_) (fun h15 => ?_)
    · rw [if_neg h15] at h
      refine al0 c300_37 ?_
      refine r_gr g300_38 rfl rfl (hp _ _ _ rfl) ?_
      refine r_bi c300_41 kB65 ?_
      obtain ⟨gd16, h⟩ := pm_gd_sp h
      refine w_ia c300_43 (by first | rfl | assumption) gd16 ?_
      refine al0 c300_44 ?_
      refine r_ic c300_45 kI0 ?_
      obtain ⟨⟨ov17, I18, J19⟩, e20, h⟩ := pm_bd_sp h
      dsimp only at h
      refine cv2 q300_46 (v := .int ov17) (μ1 := (I18, J19, P, pm_T0, e)) (d257 hw e20) rfl ?_
      obtain ⟨gd21, h⟩ := pm_gd_sp h
      refine r_idiv c300_49 (by simpa using gd21) ?_
      refine is2 c300_50 rfl ?_
      refine il2 c300_51 ?_
      refine il1 c300_52 ?_
      refine r_icge (t := 60) c300_53 rfl (fun h22 => ?_) (fun h22 => ?_)
      · rw [if_neg (Int.not_lt.mpr h22)] at h
        refine il1 c300_60 ?_
        cases h
        exact r_ri c300_61 rt300 rfl rfl
      · rw [if_pos h22] at h
        refine il2 c300_56 ?_
        refine r_go (t := 61) c300_57 rfl ?_
        cases h
        exact r_ri c300_61 rt300 rfl rfl
    · rw [if_pos h15] at h
      refine r_ic c300_35 kIm1 ?_
      cases h
      exact r_ri c300_36 rt300 rfl rfl
  · rw [if_neg (pm_bf h6)] at h
    refine r_ic c300_21 kI0 ?_
    cases h
    exact r_ri c300_22 rt300 rfl rfl
def f301_11  : Nat → Int32 → (Nat → Nat → Int32) → (Nat → Nat → Int64) → Option (Int32 × (Nat → Nat → Int32) × (Nat → Nat → Int64))
  | 0, _, _, _ => none
  | fu + 1, y1, I, J => (if (99 : Int32).toInt < y1.toInt then some ((-1), I, J) else (f272  I J).bind (fun (ov2, I3, J4) => (if 0 < (I3 127 41).toInt then some (y1, I3, J4) else f301_11 fu (y1 + 1) I3 J4)))
def f301  (I : Nat → Nat → Int32) (J : Nat → Nat → Int64) : Option (Int32 × (Nat → Nat → Int32) × (Nat → Nat → Int64)) := pm_lt (pm_w I 127 0 0) (fun I1 => (f253  I1 J).bind (fun (ov2, I3, J4) => f301_11 pm_FU 0 I3 J4))
theorem d301_11 {X : (Nat → Int32) × Nat} {d : Nat} {P : Nat → Nat → Value} {e r k r2 k2 : Nat}  (hw : pm_W P r k r2 k2)  : ∀ (fu : Nat) {y1 : Int32} {I : Nat → Nat → Int32} {J : Nat → Nat → Int64} {q : Int32 × (Nat → Nat → Int32) × (Nat → Nat → Int64)} (h : f301_11 fu y1 I J = some q), pm_Fx X (d + 7) 301 11 [.ref 127, .int y1] [] (I, J, P, pm_T0, e) (.inl (some (.int q.1))) (q.2.1, q.2.2, P, pm_T0, e) := by
  obtain ⟨hp, hw1, hw2, hw3, hw4, hw5, hw6, hw7, hw8, hw9, hw10, hw11⟩ := id hw
  have hwa := hw5.1
  have hwb := hw6.1
  have hwc := hw7.1
  have hwd := hw8.1
  intro fu
  induction fu with
  | zero => intro y1 I J q h; cases h
  | succ fu ih =>
    intro y1 I J q h
    rw [f301_11] at h
    refine il1 c301_11 ?_
    refine r_bi c301_12 kB99 ?_
    refine r_icgt (t := 36) c301_14 rfl (fun h1 => ?_) (fun h1 => ?_)
    · rw [if_pos h1] at h
      refine r_ic c301_36 kIm1 ?_
      cases h
      exact r_ri c301_37 rt301 rfl rfl
    · rw [if_neg (Int.not_lt.mpr h1)] at h
      refine al0 c301_17 ?_
      obtain ⟨⟨ov2, I3, J4⟩, e5, h⟩ := pm_bd_sp h
      dsimp only at h
      refine cz1 q301_18 (μ1 := (I3, J4, P, pm_T0, e)) (d272 hw e5) rfl ?_
      refine al0 c301_21 ?_
      refine r_gi g301_22 (by first | rfl | assumption) rfl ?_
      refine r_ifle (t := 30) c301_25 rfl (fun h6 => ?_) (fun h6 => ?_)
      · rw [if_neg (Int.not_lt.mpr h6)] at h
        refine ii1 c301_30 kI1 rfl ?_
        refine r_go (t := 11) c301_33 rfl ?_
        exact ih h
      · rw [if_pos h6] at h
        refine il1 c301_28 ?_
        cases h
        exact r_ri c301_29 rt301 rfl rfl
theorem d301 {X : (Nat → Int32) × Nat} {d : Nat} {I : Nat → Nat → Int32} {J : Nat → Nat → Int64} {P : Nat → Nat → Value} {e r k r2 k2 : Nat}  {q : Int32 × (Nat → Nat → Int32) × (Nat → Nat → Int64)} (hw : pm_W P r k r2 k2)  (h : f301  I J = some q) : pm_Fn X (d + 7) 301 1 [.ref 127] (I, J, P, pm_T0, e) (.inl (some (.int q.1))) (q.2.1, q.2.2, P, pm_T0, e) := by
  obtain ⟨hp, hw1, hw2, hw3, hw4, hw5, hw6, hw7, hw8, hw9, hw10, hw11⟩ := id hw
  have hwa := hw5.1
  have hwb := hw6.1
  have hwc := hw7.1
  have hwd := hw8.1
  unfold f301 at h
  refine fn_v rc301 (c := 12) (nf := 59) (by first | rfl | assumption) ml301 rfl rfl rfl rfl ?_
  refine al0 c301_0 ?_
  refine r_ic c301_1 kI0 ?_
  refine w_pi p301_2 (by first | rfl | assumption) rfl ?_
  rw [pm_lt_eq] at h
  generalize pm_w I 127 0 0 = I1 at h ⊢
  refine al0 c301_5 ?_
  obtain ⟨⟨ov2, I3, J4⟩, e5, h⟩ := pm_bd_sp h
  dsimp only at h
  refine cz1 q301_6 (μ1 := (I3, J4, P, pm_T0, e)) (d253 hw e5) rfl ?_
  refine r_ic c301_9 kI0 ?_
  refine is1 c301_10 rfl ?_
  exact d301_11 hw pm_FU h
def v304 (x0 : Int32) (x1 : Int32) (I : Nat → Nat → Int32) : Int32 := (if x1.toInt < x0.toInt then x0 - x1 else 0)
theorem d304 {X : (Nat → Int32) × Nat} {d : Nat} {I : Nat → Nat → Int32} {J : Nat → Nat → Int64} {P : Nat → Nat → Value} {e r k r2 k2 : Nat} {x0 : Int32} {x1 : Int32} {q : Int32} (hw : pm_W P r k r2 k2)  (h : v304 x0 x1 I = q) : pm_Fn X (d) 304 0 [.int x0, .int x1] (I, J, P, pm_T0, e) (.inl (some (.int q))) (I, J, P, pm_T0, e) := by
  obtain ⟨hp, hw1, hw2, hw3, hw4, hw5, hw6, hw7, hw8, hw9, hw10, hw11⟩ := id hw
  have hwa := hw5.1
  have hwb := hw6.1
  have hwc := hw7.1
  have hwd := hw8.1
  unfold v304 at h
  refine fn_s ml304 rfl rfl rfl ?_
  refine il0 c304_0 ?_
  refine il1 c304_1 ?_
  refine r_icle (t := 11) c304_2 rfl (fun h1 => ?_) (fun h1 => ?_)
  · rw [if_neg (Int.not_lt.mpr h1)] at h
    refine r_ic c304_11 kI0 ?_
    cases h
    exact r_ri c304_12 rt304 rfl rfl
  · rw [if_pos h1] at h
    refine il0 c304_5 ?_
    refine il1 c304_6 ?_
    refine r_isub c304_7 ?_
    refine r_go (t := 12) c304_8 rfl ?_
    cases h
    exact r_ri c304_12 rt304 rfl rfl
def f303_L  : Nat → Nat → Int32 → Int32 → Int32 → (Nat → Nat → Int32) → (Nat → Nat → Int64) → Option (Unit × (Nat → Nat → Int32) × (Nat → Nat → Int64))
  | 0, _, _, _, _, _, _ => none
  | fu + 1, 0, y1, y2, _, I, J => (if y2.toInt < (225 : Int32).toInt then (f265 y1 0 ((y2 / 25) + 1) (y2 - y2 / 25 * 25) I J).bind (fun (ov2, I3, J4) => pm_gd (pm_in y2 225) (pm_lt (pm_w I3 153 (y2).toNatClampNeg ov2) (fun I7 => pm_gd (pm_in y2 225) (pm_lt (pm_w I7 152 (y2).toNatClampNeg (vp_nar .boolean 1)) (fun I9 => f303_L fu 1 y1 y2 0 I9 J4))))) else some ((), I, J))
  | fu + 1, _ + 1, y1, y2, y3, I, J => (if y3.toInt < (I 127 45).toInt then pm_gd (pm_in y2 225) ((if (I 152 (y2).toNatClampNeg) = 0 then pm_gd (pm_in y2 225) (pm_lt (pm_w I 152 (y2).toNatClampNeg (vp_nar .boolean 0)) (fun I14 => f303_L fu 1 y1 y2 (y3 + 1) I14 J)) else pm_gd (pm_in y2 225) (pm_gd (pm_in (2 * y3) 16) (pm_gd (pm_in ((2 * y3) + 1) 16) ((if (v304 (I 153 (y2).toNatClampNeg) (I 147 (2 * y3).toNatClampNeg) I) = (I 147 ((2 * y3) + 1).toNatClampNeg) then pm_gd (pm_in y2 225) (pm_lt (pm_w I 152 (y2).toNatClampNeg (vp_nar .boolean 1)) (fun I22 => f303_L fu 1 y1 y2 (y3 + 1) I22 J)) else pm_gd (pm_in y2 225) (pm_lt (pm_w I 152 (y2).toNatClampNeg (vp_nar .boolean 0)) (fun I20 => f303_L fu 1 y1 y2 (y3 + 1) I20 J)))))))) else f303_L fu 0 y1 (y2 + 1) 0 I J)
def f303 (x1 : Int32) (I : Nat → Nat → Int32) (J : Nat → Nat → Int64) : Option (Unit × (Nat → Nat → Int32) × (Nat → Nat → Int64)) := (f253  I J).bind (fun (ov1, I2, J3) => f303_L pm_FU 0 x1 0 0 I2 J3)
theorem d303_L {X : (Nat → Int32) × Nat} {d : Nat} {P : Nat → Nat → Value} {e r k r2 k2 : Nat}  (hw : pm_W P r k r2 k2)  : ∀ fu : Nat, (∀ {y1 y2 : Int32} {I : Nat → Nat → Int32} {J : Nat → Nat → Int64} {q : Unit × (Nat → Nat → Int32) × (Nat → Nat → Int64)} {z3 : Value} (h : f303_L fu 0 y1 y2 0 I J = some q), pm_Fx X (d + 4) 303 6 [.ref 127, .int y1, .int y2, z3] [] (I, J, P, pm_T0, e) (.inl none) (q.2.1, q.2.2, P, pm_T0, e)) ∧ (∀ {y1 y2 y3 : Int32} {I : Nat → Nat → Int32} {J : Nat → Nat → Int64} {q : Unit × (Nat → Nat → Int32) × (Nat → Nat → Int64)} (h : f303_L fu 1 y1 y2 y3 I J = some q), pm_Fx X (d + 4) 303 44 [.ref 127, .int y1, .int y2, .int y3] [] (I, J, P, pm_T0, e) (.inl none) (q.2.1, q.2.2, P, pm_T0, e)) := by
  obtain ⟨hp, hw1, hw2, hw3, hw4, hw5, hw6, hw7, hw8, hw9, hw10, hw11⟩ := id hw
  have hwa := hw5.1
  have hwb := hw6.1
  have hwc := hw7.1
  have hwd := hw8.1
  intro fu
  induction fu with
  | zero => exact ⟨(by intro y1 y2 I J q z3 h; cases h), (by intro y1 y2 y3 I J q h; cases h)⟩
  | succ fu ih =>
    refine ⟨?_, ?_⟩
    · intro y1 y2 I J q z3 h
      rw [f303_L] at h
      refine il2 c303_6 ?_
      refine r_si c303_7 kS225 ?_
      refine r_icge (t := 114) c303_10 rfl (fun h1 => ?_) (fun h1 => ?_)
      · rw [if_neg (Int.not_lt.mpr h1)] at h
        cases h
        exact r_rv c303_114 rt303 rfl
      · rw [if_pos h1] at h
        refine al0 c303_13 ?_
        refine r_gr g303_14 rfl rfl (hp _ _ _ rfl) ?_
        refine il2 c303_17 ?_
        refine al0 c303_18 ?_
        refine il1 c303_19 ?_
        refine r_ic c303_20 kI0 ?_
        refine il2 c303_21 ?_
        refine r_bi c303_22 kB25 ?_
        refine r_idiv c303_24 (by decide) ?_
        refine r_ic c303_25 kI1 ?_
        refine r_iadd c303_26 ?_
        refine il2 c303_27 ?_
        refine r_bi c303_28 kB25 ?_
        refine r_irem c303_30 (by decide) ?_
        obtain ⟨⟨ov2, I3, J4⟩, e5, h⟩ := pm_bd_sp h
        dsimp only at h
        refine cv5 q303_31 (v := .int ov2) (μ1 := (I3, J4, P, pm_T0, e)) (d265 hw e5) rfl ?_
        obtain ⟨gd6, h⟩ := pm_gd_sp h
        refine w_ist c303_34 (by first | rfl | assumption) gd6 ?_
        rw [pm_lt_eq] at h
        generalize pm_w I3 153 (y2).toNatClampNeg ov2 = I7 at h ⊢
        refine al0 c303_35 ?_
        refine r_gr g303_36 rfl rfl (hp _ _ _ rfl) ?_
        refine il2 c303_39 ?_
        refine r_ic c303_40 kI1 ?_
        obtain ⟨gd8, h⟩ := pm_gd_sp h
        refine w_bst c303_41 (by first | rfl | assumption) gd8 ?_
        rw [pm_lt_eq] at h
        generalize pm_w I7 152 (y2).toNatClampNeg (vp_nar .boolean 1) = I9 at h ⊢
        refine r_ic c303_42 kI0 ?_
        refine is3 c303_43 rfl ?_
        exact ih.2 h
    · intro y1 y2 y3 I J q h
      rw [f303_L] at h
      refine il3 c303_44 ?_
      refine al0 c303_45 ?_
      refine r_gi g303_46 (by first | rfl | assumption) rfl ?_
      refine r_icge (t := 108) c303_49 rfl (fun h10 => ?_) (fun h10 => ?_)
      · rw [if_neg (Int.not_lt.mpr h10)] at h
        refine ii2 c303_108 kI1 rfl ?_
        refine r_go (t := 6) c303_111 rfl ?_
        exact ih.1 h
      · rw [if_pos h10] at h
        refine al0 c303_52 ?_
        refine r_gr g303_53 rfl rfl (hp _ _ _ rfl) ?_
        refine il2 c303_56 ?_
        refine al0 c303_57 ?_
        refine r_gr g303_58 rfl rfl (hp _ _ _ rfl) ?_
        refine il2 c303_61 ?_
        obtain ⟨gd11, h⟩ := pm_gd_sp h
        refine w_ba c303_62 (by first | rfl | assumption) gd11 ?_
        refine r_ifeq (t := 100) c303_63 rfl (fun h12 => ?_) (fun h12 => ?_)
        · rw [if_pos h12] at h
          refine r_ic c303_100 kI0 ?_
          obtain ⟨gd13, h⟩ := pm_gd_sp h
          refine w_bst c303_101 (by first | rfl | assumption) gd13 ?_
          rw [pm_lt_eq] at h
          generalize pm_w I 152 (y2).toNatClampNeg (vp_nar .boolean 0) = I14 at h ⊢
          refine ii3 c303_102 kI1 rfl ?_
          refine r_go (t := 44) c303_105 rfl ?_
          exact ih.2 h
        · rw [if_neg h12] at h
          refine al0 c303_66 ?_
          refine r_gr g303_67 rfl rfl (hp _ _ _ rfl) ?_
          refine il2 c303_70 ?_
          obtain ⟨gd15, h⟩ := pm_gd_sp h
          refine w_ia c303_71 (by first | rfl | assumption) gd15 ?_
          refine al0 c303_72 ?_
          refine r_gr g303_73 rfl rfl (hp _ _ _ rfl) ?_
          refine r_ic c303_76 kI2 ?_
          refine il3 c303_77 ?_
          refine r_imul c303_78 ?_
          obtain ⟨gd16, h⟩ := pm_gd_sp h
          refine w_ia c303_79 (by first | rfl | assumption) gd16 ?_
          refine cv2 q303_80 (d304 hw rfl) rfl ?_
          refine al0 c303_83 ?_
          refine r_gr g303_84 rfl rfl (hp _ _ _ rfl) ?_
          refine r_ic c303_87 kI2 ?_
          refine il3 c303_88 ?_
          refine r_imul c303_89 ?_
          refine r_ic c303_90 kI1 ?_
          refine r_iadd c303_91 ?_
          obtain ⟨gd17, h⟩ := pm_gd_sp h
          refine w_ia c303_92 (by first | rfl | assumption) gd17 ?_
          refine r_icne (t := 100) c303_93 rfl (fun h18 => ?_) (fun h18 => ?_)
          · rw [if_neg h18] at h
            refine r_ic c303_100 kI0 ?_
            obtain ⟨gd19, h⟩ := pm_gd_sp h
            refine w_bst c303_101 (by first | rfl | assumption) gd19 ?_
            rw [pm_lt_eq] at h
            generalize pm_w I 152 (y2).toNatClampNeg (vp_nar .boolean 0) = I20 at h ⊢
            refine ii3 c303_102 kI1 rfl ?_
            refine r_go (t := 44) c303_105 rfl ?_
            exact ih.2 h
          · rw [if_pos h18] at h
            refine r_ic c303_96 kI1 ?_
            refine r_go (t := 101) c303_97 rfl ?_
            obtain ⟨gd21, h⟩ := pm_gd_sp h
            refine w_bst c303_101 (by first | rfl | assumption) gd21 ?_
            rw [pm_lt_eq] at h
            generalize pm_w I 152 (y2).toNatClampNeg (vp_nar .boolean 1) = I22 at h ⊢
            refine ii3 c303_102 kI1 rfl ?_
            refine r_go (t := 44) c303_105 rfl ?_
            exact ih.2 h
theorem d303 {X : (Nat → Int32) × Nat} {d : Nat} {I : Nat → Nat → Int32} {J : Nat → Nat → Int64} {P : Nat → Nat → Value} {e r k r2 k2 : Nat} {x1 : Int32} {q : Unit × (Nat → Nat → Int32) × (Nat → Nat → Int64)} (hw : pm_W P r k r2 k2)  (h : f303 x1 I J = some q) : pm_Fn X (d + 4) 303 1 [.ref 127, .int x1] (I, J, P, pm_T0, e) (.inl none) (q.2.1, q.2.2, P, pm_T0, e) := by
  obtain ⟨hp, hw1, hw2, hw3, hw4, hw5, hw6, hw7, hw8, hw9, hw10, hw11⟩ := id hw
  have hwa := hw5.1
  have hwb := hw6.1
  have hwc := hw7.1
  have hwd := hw8.1
  unfold f303 at h
  refine fn_v rc303 (c := 12) (nf := 59) (by first | rfl | assumption) ml303 rfl rfl rfl rfl ?_
  refine al0 c303_0 ?_
  obtain ⟨⟨ov1, I2, J3⟩, e4, h⟩ := pm_bd_sp h
  dsimp only at h
  refine cz1 q303_1 (μ1 := (I2, J3, P, pm_T0, e)) (d253 hw e4) rfl ?_
  refine r_ic c303_4 kI0 ?_
  refine is2 c303_5 rfl ?_
  exact (d303_L hw pm_FU).1 h
def f302_50  : Nat → Int32 → Int32 → Int32 → Int32 → Int32 → Int32 → (Nat → Nat → Int32) → (Nat → Nat → Int64) → Option (Int32 × (Nat → Nat → Int32) × (Nat → Nat → Int64))
  | 0, _, _, _, _, _, _, _, _ => none
  | fu + 1, y2, y3, y4, y5, y6, y7, I, J => (if y7.toInt < (225 : Int32).toInt then pm_gd (pm_in y7 225) ((if (I 152 (y7).toNatClampNeg) = 0 then f302_50 fu y2 y3 y4 y5 y6 (y7 + 1) I J else (if y4 = (-1) then (if y5 = (-1) then pm_gd (pm_in y7 225) (pm_gd (pm_in y7 225) ((if y6.toInt < (I 153 (y7).toNatClampNeg).toInt then pm_gd (pm_in y7 225) (f302_50 fu y2 (y3 + 1) ((100 * ((y7 / 25) + 1)) + (y7 - y7 / 25 * 25)) (I 153 (y7).toNatClampNeg) (I 153 (y7).toNatClampNeg) (y7 + 1) I J) else f302_50 fu y2 (y3 + 1) ((100 * ((y7 / 25) + 1)) + (y7 - y7 / 25 * 25)) (I 153 (y7).toNatClampNeg) y6 (y7 + 1) I J))) else pm_gd (pm_in y7 225) ((if (I 153 (y7).toNatClampNeg).toInt < y5.toInt then pm_gd (pm_in y7 225) (pm_gd (pm_in y7 225) ((if y6.toInt < (I 153 (y7).toNatClampNeg).toInt then pm_gd (pm_in y7 225) (f302_50 fu y2 (y3 + 1) ((100 * ((y7 / 25) + 1)) + (y7 - y7 / 25 * 25)) (I 153 (y7).toNatClampNeg) (I 153 (y7).toNatClampNeg) (y7 + 1) I J) else f302_50 fu y2 (y3 + 1) ((100 * ((y7 / 25) + 1)) + (y7 - y7 / 25 * 25)) (I 153 (y7).toNatClampNeg) y6 (y7 + 1) I J))) else pm_gd (pm_in y7 225) ((if y6.toInt < (I 153 (y7).toNatClampNeg).toInt then pm_gd (pm_in y7 225) (f302_50 fu y2 (y3 + 1) ((100 * ((y7 / 25) + 1)) + (y7 - y7 / 25 * 25)) y5 (I 153 (y7).toNatClampNeg) (y7 + 1) I J) else f302_50 fu y2 (y3 + 1) ((100 * ((y7 / 25) + 1)) + (y7 - y7 / 25 * 25)) y5 y6 (y7 + 1) I J))))) else (if y5 = (-1) then pm_gd (pm_in y7 225) (pm_gd (pm_in y7 225) ((if y6.toInt < (I 153 (y7).toNatClampNeg).toInt then pm_gd (pm_in y7 225) (f302_50 fu y2 (y3 + 1) y4 (I 153 (y7).toNatClampNeg) (I 153 (y7).toNatClampNeg) (y7 + 1) I J) else f302_50 fu y2 (y3 + 1) y4 (I 153 (y7).toNatClampNeg) y6 (y7 + 1) I J))) else pm_gd (pm_in y7 225) ((if (I 153 (y7).toNatClampNeg).toInt < y5.toInt then pm_gd (pm_in y7 225) (pm_gd (pm_in y7 225) ((if y6.toInt < (I 153 (y7).toNatClampNeg).toInt then pm_gd (pm_in y7 225) (f302_50 fu y2 (y3 + 1) y4 (I 153 (y7).toNatClampNeg) (I 153 (y7).toNatClampNeg) (y7 + 1) I J) else f302_50 fu y2 (y3 + 1) y4 (I 153 (y7).toNatClampNeg) y6 (y7 + 1) I J))) else pm_gd (pm_in y7 225) ((if y6.toInt < (I 153 (y7).toNatClampNeg).toInt then pm_gd (pm_in y7 225) (f302_50 fu y2 (y3 + 1) y4 y5 (I 153 (y7).toNatClampNeg) (y7 + 1) I J) else f302_50 fu y2 (y3 + 1) y4 y5 y6 (y7 + 1) I J)))))))) else (if y2 = 0 then some (y3, I, J) else (if y2 = 1 then some (y4, I, J) else (if y2 = 2 then some (y5, I, J) else some (y6, I, J)))))
def f302 (x1 : Int32) (x2 : Int32) (I : Nat → Nat → Int32) (J : Nat → Nat → Int64) : Option (Int32 × (Nat → Nat → Int32) × (Nat → Nat → Int64)) := pm_lt (pm_w I 127 0 0) (fun I1 => (f277 x1 1 I1 J).bind (fun (ov2, I3, J4) => (if ov2 = true then (f222 (pm_bi (v241 x2 0 3 I3)) 2 1 I3 J4).bind (fun (ov7, I8, J9) => (if ov7 = true then (f303 x1 I8 J9).bind (fun (ov12, I13, J14) => f302_50 pm_FU x2 0 (-1) (-1) (-1) 0 I13 J14) else some (0, I8, J9))) else some (0, I3, J4))))
theorem d302_50 {X : (Nat → Int32) × Nat} {d : Nat} {P : Nat → Nat → Value} {e r k r2 k2 : Nat}  (hw : pm_W P r k r2 k2)  : ∀ (fu : Nat) {y2 y3 y4 y5 y6 y7 : Int32} {I : Nat → Nat → Int32} {J : Nat → Nat → Int64} {q : Int32 × (Nat → Nat → Int32) × (Nat → Nat → Int64)} {z1 : Value} (h : f302_50 fu y2 y3 y4 y5 y6 y7 I J = some q), pm_Fx X (d + 5) 302 50 [.ref 127, z1, .int y2, .int y3, .int y4, .int y5, .int y6, .int y7] [] (I, J, P, pm_T0, e) (.inl (some (.int q.1))) (q.2.1, q.2.2, P, pm_T0, e) := by
  obtain ⟨hp, hw1, hw2, hw3, hw4, hw5, hw6, hw7, hw8, hw9, hw10, hw11⟩ := id hw
  have hwa := hw5.1
  have hwb := hw6.1
  have hwc := hw7.1
  have hwd := hw8.1
  intro fu
  induction fu with
  | zero => intro y2 y3 y4 y5 y6 y7 I J q z1 h; cases h
  | succ fu ih =>
    intro y2 y3 y4 y5 y6 y7 I J q z1 h
    rw [f302_50] at h
    refine il7 c302_50 ?_
    refine r_si c302_52 kS225 ?_
    refine r_icge (t := 167) c302_55 rfl (fun h1 => ?_) (fun h1 => ?_)
    · rw [if_neg (Int.not_lt.mpr h1)] at h
      refine il2 c302_167 ?_
      refine r_ifne (t := 175) c302_168 rfl (fun h2 => ?_) (fun h2 => ?_)
      · rw [if_neg h2] at h
        refine il2 c302_175 ?_
        refine r_ic c302_176 kI1 ?_
        refine r_icne (t := 185) c302_177 rfl (fun h3 => ?_) (fun h3 => ?_)
        · rw [if_neg h3] at h
          refine il2 c302_185 ?_
          refine r_ic c302_186 kI2 ?_
          refine r_icne (t := 195) c302_187 rfl (fun h4 => ?_) (fun h4 => ?_)
          · rw [if_neg h4] at h
            refine il6 c302_195 ?_
            cases h
            exact r_ri c302_197 rt302 rfl rfl
          · rw [if_pos h4] at h
            refine il5 c302_190 ?_
            refine r_go (t := 197) c302_192 rfl ?_
            cases h
            exact r_ri c302_197 rt302 rfl rfl
        · rw [if_pos h3] at h
          refine il4 c302_180 ?_
          refine r_go (t := 197) c302_182 rfl ?_
          cases h
          exact r_ri c302_197 rt302 rfl rfl
      · rw [if_pos h2] at h
        refine il3 c302_171 ?_
        refine r_go (t := 197) c302_172 rfl ?_
        cases h
        exact r_ri c302_197 rt302 rfl rfl
    · rw [if_pos h1] at h
      refine al0 c302_58 ?_
      refine r_gr g302_59 rfl rfl (hp _ _ _ rfl) ?_
      refine il7 c302_62 ?_
      obtain ⟨gd5, h⟩ := pm_gd_sp h
      refine w_ba c302_64 (by first | rfl | assumption) gd5 ?_
      refine r_ifne (t := 71) c302_65 rfl (fun h6 => ?_) (fun h6 => ?_)
      · rw [if_neg h6] at h
        refine ii3 c302_71 kI1 rfl ?_
        refine il4 c302_74 ?_
        refine r_ic c302_76 kIm1 ?_
        refine r_icne (t := 99) c302_77 rfl (fun h7 => ?_) (fun h7 => ?_)
        · rw [if_neg h7] at h
          refine il4 c302_99 ?_
          refine is4 c302_101 rfl ?_
          refine il5 c302_103 ?_
          refine r_ic c302_105 kIm1 ?_
          refine r_iceq (t := 121) c302_106 rfl (fun h8 => ?_) (fun h8 => ?_)
          · rw [if_pos h8] at h
            refine al0 c302_121 ?_
            refine r_gr g302_122 rfl rfl (hp _ _ _ rfl) ?_
            refine il7 c302_125 ?_
            obtain ⟨gd9, h⟩ := pm_gd_sp h
            refine w_ia c302_127 (by first | rfl | assumption) gd9 ?_
            refine r_go (t := 133) c302_128 rfl ?_
            refine is5 c302_133 rfl ?_
            refine al0 c302_135 ?_
            refine r_gr g302_136 rfl rfl (hp _ _ _ rfl) ?_
            refine il7 c302_139 ?_
            obtain ⟨gd10, h⟩ := pm_gd_sp h
            refine w_ia c302_141 (by first | rfl | assumption) gd10 ?_
            refine il6 c302_142 ?_
            refine r_icle (t := 157) c302_144 rfl (fun h11 => ?_) (fun h11 => ?_)
            · rw [if_neg (Int.not_lt.mpr h11)] at h
              refine il6 c302_157 ?_
              refine is6 c302_159 rfl ?_
              refine ii7 c302_161 kI1 rfl ?_
              refine r_go (t := 50) c302_164 rfl ?_
              exact ih h
            · rw [if_pos h11] at h
              refine al0 c302_147 ?_
              refine r_gr g302_148 rfl rfl (hp _ _ _ rfl) ?_
              refine il7 c302_151 ?_
              obtain ⟨gd12, h⟩ := pm_gd_sp h
              refine w_ia c302_153 (by first | rfl | assumption) gd12 ?_
              refine r_go (t := 159) c302_154 rfl ?_
              refine is6 c302_159 rfl ?_
              refine ii7 c302_161 kI1 rfl ?_
              refine r_go (t := 50) c302_164 rfl ?_
              exact ih h
          · rw [if_neg h8] at h
            refine al0 c302_109 ?_
            refine r_gr g302_110 rfl rfl (hp _ _ _ rfl) ?_
            refine il7 c302_113 ?_
            obtain ⟨gd13, h⟩ := pm_gd_sp h
            refine w_ia c302_115 (by first | rfl | assumption) gd13 ?_
            refine il5 c302_116 ?_
            refine r_icge (t := 131) c302_118 rfl (fun h14 => ?_) (fun h14 => ?_)
            · rw [if_neg (Int.not_lt.mpr h14)] at h
              refine il5 c302_131 ?_
              refine is5 c302_133 rfl ?_
              refine al0 c302_135 ?_
              refine r_gr g302_136 rfl rfl (hp _ _ _ rfl) ?_
              refine il7 c302_139 ?_
              obtain ⟨gd15, h⟩ := pm_gd_sp h
              refine w_ia c302_141 (by first | rfl | assumption) gd15 ?_
              refine il6 c302_142 ?_
              refine r_icle (t := 157) c302_144 rfl (fun h16 => ?_) (fun h16 => ?_)
              · rw [if_neg (Int.not_lt.mpr h16)] at h
                refine il6 c302_157 ?_
                refine is6 c302_159 rfl ?_
                refine ii7 c302_161 kI1 rfl ?_
                refine r_go (t := 50) c302_164 rfl ?_
                exact ih h
              · rw [if_pos h16] at h
                refine al0 c302_147 ?_
                refine r_gr g302_148 rfl rfl (hp _ _ _ rfl) ?_
                refine il7 c302_151 ?_
                obtain ⟨gd17, h⟩ := pm_gd_sp h
                refine w_ia c302_153 (by first | rfl | assumption) gd17 ?_
                refine r_go (t := 159) c302_154 rfl ?_
                refine is6 c302_159 rfl ?_
                refine ii7 c302_161 kI1 rfl ?_
                refine r_go (t := 50) c302_164 rfl ?_
                exact ih h
            · rw [if_pos h14] at h
              refine al0 c302_121 ?_
              refine r_gr g302_122 rfl rfl (hp _ _ _ rfl) ?_
              refine il7 c302_125 ?_
              obtain ⟨gd18, h⟩ := pm_gd_sp h
              refine w_ia c302_127 (by first | rfl | assumption) gd18 ?_
              refine r_go (t := 133) c302_128 rfl ?_
              refine is5 c302_133 rfl ?_
              refine al0 c302_135 ?_
              refine r_gr g302_136 rfl rfl (hp _ _ _ rfl) ?_
              refine il7 c302_139 ?_
              obtain ⟨gd19, h⟩ := pm_gd_sp h
              refine w_ia c302_141 (by first | rfl | assumption) gd19 ?_
              refine il6 c302_142 ?_
              refine r_icle (t := 157) c302_144 rfl (fun h20 => ?_) (fun h20 => ?_)
              · rw [if_neg (Int.not_lt.mpr h20)] at h
                refine il6 c302_157 ?_
                refine is6 c302_159 rfl ?_
                refine ii7 c302_161 kI1 rfl ?_
                refine r_go (t := 50) c302_164 rfl ?_
                exact ih h
              · rw [if_pos h20] at h
                refine al0 c302_147 ?_
                refine r_gr g302_148 rfl rfl (hp _ _ _ rfl) ?_
                refine il7 c302_151 ?_
                obtain ⟨gd21, h⟩ := pm_gd_sp h
                refine w_ia c302_153 (by first | rfl | assumption) gd21 ?_
                refine r_go (t := 159) c302_154 rfl ?_
                refine is6 c302_159 rfl ?_
                refine ii7 c302_161 kI1 rfl ?_
                refine r_go (t := 50) c302_164 rfl ?_
                exact ih h
        · rw [if_pos h7] at h
          refine r_bi c302_80 kB100 ?_
          refine il7 c302_82 ?_
          refine r_bi c302_84 kB25 ?_
          refine r_idiv c302_86 (by decide) ?_
          refine r_ic c302_87 kI1 ?_
          refine r_iadd c302_88 ?_
          refine r_imul c302_89 ?_
          refine il7 c302_90 ?_
          refine r_bi c302_92 kB25 ?_
          refine r_irem c302_94 (by decide) ?_
          refine r_iadd c302_95 ?_
          refine r_go (t := 101) c302_96 rfl ?_
          refine is4 c302_101 rfl ?_
          refine il5 c302_103 ?_
          refine r_ic c302_105 kIm1 ?_
          refine r_iceq (t := 121) c302_106 rfl (fun h22 => ?_) (fun h22 => ?_)
          · rw [if_pos h22] at h
            refine al0 c302_121 ?_
            refine r_gr g302_122 rfl rfl (hp _ _ _ rfl) ?_
            refine il7 c302_125 ?_
            obtain ⟨gd23, h⟩ := pm_gd_sp h
            refine w_ia c302_127 (by first | rfl | assumption) gd23 ?_
            refine r_go (t := 133) c302_128 rfl ?_
            refine is5 c302_133 rfl ?_
            refine al0 c302_135 ?_
            refine r_gr g302_136 rfl rfl (hp _ _ _ rfl) ?_
            refine il7 c302_139 ?_
            obtain ⟨gd24, h⟩ := pm_gd_sp h
            refine w_ia c302_141 (by first | rfl | assumption) gd24 ?_
            refine il6 c302_142 ?_
            refine r_icle (t := 157) c302_144 rfl (fun h25 => ?_) (fun h25 => ?_)
            · rw [if_neg (Int.not_lt.mpr h25)] at h
              refine il6 c302_157 ?_
              refine is6 c302_159 rfl ?_
              refine ii7 c302_161 kI1 rfl ?_
              refine r_go (t := 50) c302_164 rfl ?_
              exact ih h
            · rw [if_pos h25] at h
              refine al0 c302_147 ?_
              refine r_gr g302_148 rfl rfl (hp _ _ _ rfl) ?_
              refine il7 c302_151 ?_
              obtain ⟨gd26, h⟩ := pm_gd_sp h
              refine w_ia c302_153 (by first | rfl | assumption) gd26 ?_
              refine r_go (t := 159) c302_154 rfl ?_
              refine is6 c302_159 rfl ?_
              refine ii7 c302_161 kI1 rfl ?_
              refine r_go (t := 50) c302_164 rfl ?_
              exact ih h
          · rw [if_neg h22] at h
            refine al0 c302_109 ?_
            refine r_gr g302_110 rfl rfl (hp _ _ _ rfl) ?_
            refine il7 c302_113 ?_
            obtain ⟨gd27, h⟩ := pm_gd_sp h
            refine w_ia c302_115 (by first | rfl | assumption) gd27 ?_
            refine il5 c302_116 ?_
            refine r_icge (t := 131) c302_118 rfl (fun h28 => ?_) (fun h28 => ?_)
            · rw [if_neg (Int.not_lt.mpr h28)] at h
              refine il5 c302_131 ?_
              refine is5 c302_133 rfl ?_
              refine al0 c302_135 ?_
              refine r_gr g302_136 rfl rfl (hp _ _ _ rfl) ?_
              refine il7 c302_139 ?_
              obtain ⟨gd29, h⟩ := pm_gd_sp h
              refine w_ia c302_141 (by first | rfl | assumption) gd29 ?_
              refine il6 c302_142 ?_
              refine r_icle (t := 157) c302_144 rfl (fun h30 => ?_) (fun h30 => ?_)
              · rw [if_neg (Int.not_lt.mpr h30)] at h
                refine il6 c302_157 ?_
                refine is6 c302_159 rfl ?_
                refine ii7 c302_161 kI1 rfl ?_
                refine r_go (t := 50) c302_164 rfl ?_
                exact ih h
              · rw [if_pos h30] at h
                refine al0 c302_147 ?_
                refine r_gr g302_148 rfl rfl (hp _ _ _ rfl) ?_
                refine il7 c302_151 ?_
                obtain ⟨gd31, h⟩ := pm_gd_sp h
                refine w_ia c302_153 (by first | rfl | assumption) gd31 ?_
                refine r_go (t := 159) c302_154 rfl ?_
                refine is6 c302_159 rfl ?_
                refine ii7 c302_161 kI1 rfl ?_
                refine r_go (t := 50) c302_164 rfl ?_
                exact ih h
            · rw [if_pos h28] at h
              refine al0 c302_121 ?_
              refine r_gr g302_122 rfl rfl (hp _ _ _ rfl) ?_
              refine il7 c302_125 ?_
              obtain ⟨gd32, h⟩ := pm_gd_sp h
              refine w_ia c302_127 (by first | rfl | assumption) gd32 ?_
              refine r_go (t := 133) c302_128 rfl ?_
              refine is5 c302_133 rfl ?_
              refine al0 c302_135 ?_
              refine r_gr g302_136 rfl rfl (hp _ _ _ rfl) ?_
              refine il7 c302_139 ?_
              obtain ⟨gd33, h⟩ := pm_gd_sp h
              refine w_ia c302_141 (by first | rfl | assumption) gd33 ?_
              refine il6 c302_142 ?_
              refine r_icle (t := 157) c302_144 rfl (fun h34 => ?_) (fun h34 => ?_)
              · rw [if_neg (Int.not_lt.mpr h34)] at h
                refine il6 c302_157 ?_
                refine is6 c302_159 rfl ?_
                refine ii7 c302_161 kI1 rfl ?_
                refine r_go (t := 50) c302_164 rfl ?_
                exact ih h
              · rw [if_pos h34] at h
                refine al0 c302_147 ?_
                refine r_gr g302_148 rfl rfl (hp _ _ _ rfl) ?_
                refine il7 c302_151 ?_
                obtain ⟨gd35, h⟩ := pm_gd_sp h
                refine w_ia c302_153 (by first | rfl | assumption) gd35 ?_
                refine r_go (t := 159) c302_154 rfl ?_
                refine is6 c302_159 rfl ?_
                refine ii7 c302_161 kI1 rfl ?_
                refine r_go (t := 50) c302_164 rfl ?_
                exact ih h
      · rw [if_pos h6] at h
        refine r_go (t := 161) c302_68 rfl ?_
        refine ii7 c302_161 kI1 rfl ?_
        refine r_go (t := 50) c302_164 rfl ?_
        exact ih h
theorem d302 {X : (Nat → Int32) × Nat} {d : Nat} {I : Nat → Nat → Int32} {J : Nat → Nat → Int64} {P : Nat → Nat → Value} {e r k r2 k2 : Nat} {x1 : Int32} {x2 : Int32} {q : Int32 × (Nat → Nat → Int32) × (Nat → Nat → Int64)} (hw : pm_W P r k r2 k2)  (h : f302 x1 x2 I J = some q) : pm_Fn X (d + 5) 302 1 [.ref 127, .int x1, .int x2] (I, J, P, pm_T0, e) (.inl (some (.int q.1))) (q.2.1, q.2.2, P, pm_T0, e) := by
  obtain ⟨hp, hw1, hw2, hw3, hw4, hw5, hw6, hw7, hw8, hw9, hw10, hw11⟩ := id hw
  have hwa := hw5.1
  have hwb := hw6.1
  have hwc := hw7.1
  have hwd := hw8.1
  unfold f302 at h
  refine fn_v rc302 (c := 12) (nf := 59) (by first | rfl | assumption) ml302 rfl rfl rfl rfl ?_
  refine al0 c302_0 ?_
  refine r_ic c302_1 kI0 ?_
  refine w_pi p302_2 (by first | rfl | assumption) rfl ?_
  rw [pm_lt_eq] at h
  generalize pm_w I 127 0 0 = I1 at h ⊢
  refine al0 c302_5 ?_
  refine il1 c302_6 ?_
  refine r_ic c302_7 kI1 ?_
  obtain ⟨⟨ov2, I3, J4⟩, e5, h⟩ := pm_bd_sp h
  dsimp only at h
  refine cv3 q302_8 (v := .int (pm_bi ov2)) (μ1 := (I3, J4, P, pm_T0, e)) (d277 hw e5) rfl ?_
  refine r_ifeq (t := 29) c302_11 rfl (fun h6 => ?_) (fun h6 => ?_)
  · rw [if_neg (pm_bf h6)] at h
    refine r_ic c302_29 kI0 ?_
    cases h
    exact r_ri c302_30 rt302 rfl rfl
  · rw [if_pos (pm_bt h6)] at h
    refine al0 c302_14 ?_
    refine il2 c302_15 ?_
    refine r_ic c302_16 kI0 ?_
    refine r_ic c302_17 kI3 ?_
    refine cv3 q302_18 (d241 hw rfl) rfl ?_
    refine r_ic c302_21 kI2 ?_
    refine r_ic c302_22 kI1 ?_
    obtain ⟨⟨ov7, I8, J9⟩, e10, h⟩ := pm_bd_sp h
    dsimp only at h
    refine cv4 q302_23 (v := .int (pm_bi ov7)) (μ1 := (I8, J9, P, pm_T0, e)) (d222 hw e10) rfl ?_
    refine r_ifne (t := 31) c302_26 rfl (fun h11 => ?_) (fun h11 => ?_)
    · rw [if_pos (pm_bt h11)] at h
      refine al0 c302_31 ?_
      refine il1 c302_32 ?_
      obtain ⟨⟨ov12, I13, J14⟩, e15, h⟩ := pm_bd_sp h
      dsimp only at h
      refine cz2 q302_33 (μ1 := (I13, J14, P, pm_T0, e)) (d303 hw e15) rfl ?_
      refine r_ic c302_36 kI0 ?_
      refine is3 c302_37 rfl ?_
      refine r_ic c302_38 kIm1 ?_
      refine is4 c302_39 rfl ?_
      refine r_ic c302_41 kIm1 ?_
      refine is5 c302_42 rfl ?_
      refine r_ic c302_44 kIm1 ?_
      refine is6 c302_45 rfl ?_
      refine r_ic c302_47 kI0 ?_
      refine is7 c302_48 rfl ?_
      exact d302_50 hw pm_FU h
    · rw [if_neg (pm_bf h11)] at h
      refine r_ic c302_29 kI0 ?_
      cases h
      exact r_ri c302_30 rt302 rfl rfl
def f306_2  : Nat → Int32 → Int32 → (Nat → Nat → Int32) → (Nat → Nat → Int64) → Option (Bool × (Nat → Nat → Int32) × (Nat → Nat → Int64))
  | 0, _, _, _, _ => none
  | fu + 1, y1, y2, I, J => (if y2.toInt < (I 127 45).toInt then pm_gd (pm_in (2 * y2) 16) ((if (I 147 (2 * y2).toNatClampNeg) = y1 then some (true, I, J) else f306_2 fu y1 (y2 + 1) I J)) else some (false, I, J))
def f306 (x1 : Int32) (I : Nat → Nat → Int32) (J : Nat → Nat → Int64) : Option (Bool × (Nat → Nat → Int32) × (Nat → Nat → Int64)) := f306_2 pm_FU x1 0 I J
theorem d306_2 {X : (Nat → Int32) × Nat} {d : Nat} {P : Nat → Nat → Value} {e r k r2 k2 : Nat}  (hw : pm_W P r k r2 k2)  : ∀ (fu : Nat) {y1 y2 : Int32} {I : Nat → Nat → Int32} {J : Nat → Nat → Int64} {q : Bool × (Nat → Nat → Int32) × (Nat → Nat → Int64)} (h : f306_2 fu y1 y2 I J = some q), pm_Fx X (d) 306 2 [.ref 127, .int y1, .int y2] [] (I, J, P, pm_T0, e) (.inl (some (.int (pm_bi q.1)))) (q.2.1, q.2.2, P, pm_T0, e) := by
  obtain ⟨hp, hw1, hw2, hw3, hw4, hw5, hw6, hw7, hw8, hw9, hw10, hw11⟩ := id hw
  have hwa := hw5.1
  have hwb := hw6.1
  have hwc := hw7.1
  have hwd := hw8.1
  intro fu
  induction fu with
  | zero => intro y1 y2 I J q h; cases h
  | succ fu ih =>
    intro y1 y2 I J q h
    rw [f306_2] at h
    refine il2 c306_2 ?_
    refine al0 c306_3 ?_
    refine r_gi g306_4 (by first | rfl | assumption) rfl ?_
    refine r_icge (t := 30) c306_7 rfl (fun h1 => ?_) (fun h1 => ?_)
    · rw [if_neg (Int.not_lt.mpr h1)] at h
      refine r_ic c306_30 kI0 ?_
      cases h
      exact r_rz c306_31 rt306 (by decide) rfl rfl
    · rw [if_pos h1] at h
      refine al0 c306_10 ?_
      refine r_gr g306_11 rfl rfl (hp _ _ _ rfl) ?_
      refine r_ic c306_14 kI2 ?_
      refine il2 c306_15 ?_
      refine r_imul c306_16 ?_
      obtain ⟨gd2, h⟩ := pm_gd_sp h
      refine w_ia c306_17 (by first | rfl | assumption) gd2 ?_
      refine il1 c306_18 ?_
      refine r_icne (t := 24) c306_19 rfl (fun h3 => ?_) (fun h3 => ?_)
      · rw [if_neg h3] at h
        refine ii2 c306_24 kI1 rfl ?_
        refine r_go (t := 2) c306_27 rfl ?_
        exact ih h
      · rw [if_pos h3] at h
        refine r_ic c306_22 kI1 ?_
        cases h
        exact r_rz c306_23 rt306 (by decide) rfl rfl
theorem d306 {X : (Nat → Int32) × Nat} {d : Nat} {I : Nat → Nat → Int32} {J : Nat → Nat → Int64} {P : Nat → Nat → Value} {e r k r2 k2 : Nat} {x1 : Int32} {q : Bool × (Nat → Nat → Int32) × (Nat → Nat → Int64)} (hw : pm_W P r k r2 k2)  (h : f306 x1 I J = some q) : pm_Fn X (d) 306 1 [.ref 127, .int x1] (I, J, P, pm_T0, e) (.inl (some (.int (pm_bi q.1)))) (q.2.1, q.2.2, P, pm_T0, e) := by
  obtain ⟨hp, hw1, hw2, hw3, hw4, hw5, hw6, hw7, hw8, hw9, hw10, hw11⟩ := id hw
  have hwa := hw5.1
  have hwb := hw6.1
  have hwc := hw7.1
  have hwd := hw8.1
  unfold f306 at h
  refine fn_v rc306 (c := 12) (nf := 59) (by first | rfl | assumption) ml306 rfl rfl rfl rfl ?_
  refine r_ic c306_0 kI0 ?_
  refine is2 c306_1 rfl ?_
  exact d306_2 hw pm_FU h
def f307_L  : Nat → Nat → Int32 → Int32 → Int32 → (Nat → Nat → Int32) → (Nat → Nat → Int64) → Option (Int32 × (Nat → Nat → Int32) × (Nat → Nat → Int64))
  | 0, _, _, _, _, _, _ => none
  | fu + 1, 0, y1, y2, _, I, J => (if y2.toInt < (1000 : Int32).toInt then pm_gd (pm_in y2 1000) (pm_lt (pm_w I 154 (y2).toNatClampNeg 0) (fun I3 => f307_L fu 0 y1 (y2 + 1) 0 I3 J)) else f307_L fu 1 y1 0 0 I J)
  | fu + 1, _ + 1, y1, y2, y3, I, J => (if y3.toInt < (225 : Int32).toInt then pm_gd (pm_in y3 225) ((if (I 152 (y3).toNatClampNeg) = 0 then f307_L fu 1 y1 y2 (y3 + 1) I J else pm_gd (pm_in y3 225) (pm_gd (pm_in (v304 (I 153 (y3).toNatClampNeg) y1 I) 1000) (pm_gd (pm_in (v304 (I 153 (y3).toNatClampNeg) y1 I) 1000) (pm_lt (pm_w I 154 (v304 (I 153 (y3).toNatClampNeg) y1 I).toNatClampNeg ((I 154 (v304 (I 153 (y3).toNatClampNeg) y1 I).toNatClampNeg) + 1)) (fun I10 => pm_gd (pm_in (v304 (I 153 (y3).toNatClampNeg) y1 I) 1000) ((if y2.toInt < (I10 154 (v304 (I 153 (y3).toNatClampNeg) y1 I).toNatClampNeg).toInt then pm_gd (pm_in (v304 (I 153 (y3).toNatClampNeg) y1 I) 1000) (f307_L fu 1 y1 (I10 154 (v304 (I 153 (y3).toNatClampNeg) y1 I).toNatClampNeg) (y3 + 1) I10 J) else f307_L fu 1 y1 y2 (y3 + 1) I10 J)))))))) else some (y2, I, J))
def f307 (x1 : Int32) (I : Nat → Nat → Int32) (J : Nat → Nat → Int64) : Option (Int32 × (Nat → Nat → Int32) × (Nat → Nat → Int64)) := f307_L pm_FU 0 x1 0 0 I J
theorem d307_L {X : (Nat → Int32) × Nat} {d : Nat} {P : Nat → Nat → Value} {e r k r2 k2 : Nat}  (hw : pm_W P r k r2 k2)  : ∀ fu : Nat, (∀ {y1 y2 : Int32} {I : Nat → Nat → Int32} {J : Nat → Nat → Int64} {q : Int32 × (Nat → Nat → Int32) × (Nat → Nat → Int64)} {z3 : Value} {z4 : Value} (h : f307_L fu 0 y1 y2 0 I J = some q), pm_Fx X (d + 1) 307 2 [.ref 127, .int y1, .int y2, z3, z4] [] (I, J, P, pm_T0, e) (.inl (some (.int q.1))) (q.2.1, q.2.2, P, pm_T0, e)) ∧ (∀ {y1 y2 y3 : Int32} {I : Nat → Nat → Int32} {J : Nat → Nat → Int64} {q : Int32 × (Nat → Nat → Int32) × (Nat → Nat → Int64)} {z4 : Value} (h : f307_L fu 1 y1 y2 y3 I J = some q), pm_Fx X (d + 1) 307 26 [.ref 127, .int y1, .int y2, .int y3, z4] [] (I, J, P, pm_T0, e) (.inl (some (.int q.1))) (q.2.1, q.2.2, P, pm_T0, e)) := by
  obtain ⟨hp, hw1, hw2, hw3, hw4, hw5, hw6, hw7, hw8, hw9, hw10, hw11⟩ := id hw
  have hwa := hw5.1
  have hwb := hw6.1
  have hwc := hw7.1
  have hwd := hw8.1
  intro fu
  induction fu with
  | zero => exact ⟨(by intro y1 y2 I J q z3 z4 h; cases h), (by intro y1 y2 y3 I J q z4 h; cases h)⟩
  | succ fu ih =>
    refine ⟨?_, ?_⟩
    · intro y1 y2 I J q z3 z4 h
      rw [f307_L] at h
      refine il2 c307_2 ?_
      refine r_si c307_3 kS1000 ?_
      refine r_icge (t := 22) c307_6 rfl (fun h1 => ?_) (fun h1 => ?_)
      · rw [if_neg (Int.not_lt.mpr h1)] at h
        refine r_ic c307_22 kI0 ?_
        refine is2 c307_23 rfl ?_
        refine r_ic c307_24 kI0 ?_
        refine is3 c307_25 rfl ?_
        exact ih.2 h
      · rw [if_pos h1] at h
        refine al0 c307_9 ?_
        refine r_gr g307_10 rfl rfl (hp _ _ _ rfl) ?_
        refine il2 c307_13 ?_
        refine r_ic c307_14 kI0 ?_
        obtain ⟨gd2, h⟩ := pm_gd_sp h
        refine w_ist c307_15 (by first | rfl | assumption) gd2 ?_
        rw [pm_lt_eq] at h
        generalize pm_w I 154 (y2).toNatClampNeg 0 = I3 at h ⊢
        refine ii2 c307_16 kI1 rfl ?_
        refine r_go (t := 2) c307_19 rfl ?_
        exact ih.1 h
    · intro y1 y2 y3 I J q z4 h
      rw [f307_L] at h
      refine il3 c307_26 ?_
      refine r_si c307_27 kS225 ?_
      refine r_icge (t := 97) c307_30 rfl (fun h4 => ?_) (fun h4 => ?_)
      · rw [if_neg (Int.not_lt.mpr h4)] at h
        refine il2 c307_97 ?_
        cases h
        exact r_ri c307_98 rt307 rfl rfl
      · rw [if_pos h4] at h
        refine al0 c307_33 ?_
        refine r_gr g307_34 rfl rfl (hp _ _ _ rfl) ?_
        refine il3 c307_37 ?_
        obtain ⟨gd5, h⟩ := pm_gd_sp h
        refine w_ba c307_38 (by first | rfl | assumption) gd5 ?_
        refine r_ifne (t := 45) c307_39 rfl (fun h6 => ?_) (fun h6 => ?_)
        · rw [if_neg h6] at h
          refine al0 c307_45 ?_
          refine r_gr g307_46 rfl rfl (hp _ _ _ rfl) ?_
          refine il3 c307_49 ?_
          obtain ⟨gd7, h⟩ := pm_gd_sp h
          refine w_ia c307_50 (by first | rfl | assumption) gd7 ?_
          refine il1 c307_51 ?_
          refine cv2 q307_52 (d304 hw rfl) rfl ?_
          refine is4 c307_55 rfl ?_
          refine al0 c307_57 ?_
          refine r_gr g307_58 rfl rfl (hp _ _ _ rfl) ?_
          refine il4 c307_61 ?_
          refine r_dp2 c307_63 ?_
          obtain ⟨gd8, h⟩ := pm_gd_sp h
          refine w_ia c307_64 (by first | rfl | assumption) gd8 ?_
          refine r_ic c307_65 kI1 ?_
          refine r_iadd c307_66 ?_
          obtain ⟨gd9, h⟩ := pm_gd_sp h
          refine w_ist c307_67 (by first | rfl | assumption) gd9 ?_
          rw [pm_lt_eq] at h
          generalize pm_w I 154 (v304 (I 153 (y3).toNatClampNeg) y1 I).toNatClampNeg ((I 154 (v304 (I 153 (y3).toNatClampNeg) y1 I).toNatClampNeg) + 1) = I10 at h ⊢
          refine al0 c307_68 ?_
          refine r_gr g307_69 rfl rfl (hp _ _ _ rfl) ?_
          refine il4 c307_72 ?_
          obtain ⟨gd11, h⟩ := pm_gd_sp h
          refine w_ia c307_74 (by first | rfl | assumption) gd11 ?_
          refine il2 c307_75 ?_
          refine r_icle (t := 89) c307_76 rfl (fun h12 => ?_) (fun h12 => ?_)
          · rw [if_neg (Int.not_lt.mpr h12)] at h
            refine il2 c307_89 ?_
            refine is2 c307_90 rfl ?_
            refine ii3 c307_91 kI1 rfl ?_
            refine r_go (t := 26) c307_94 rfl ?_
            exact ih.2 h
          · rw [if_pos h12] at h
            refine al0 c307_79 ?_
            refine r_gr g307_80 rfl rfl (hp _ _ _ rfl) ?_
            refine il4 c307_83 ?_
            obtain ⟨gd13, h⟩ := pm_gd_sp h
            refine w_ia c307_85 (by first | rfl | assumption) gd13 ?_
            refine r_go (t := 90) c307_86 rfl ?_
            refine is2 c307_90 rfl ?_
            refine ii3 c307_91 kI1 rfl ?_
            refine r_go (t := 26) c307_94 rfl ?_
            exact ih.2 h
        · rw [if_pos h6] at h
          refine r_go (t := 91) c307_42 rfl ?_
          refine ii3 c307_91 kI1 rfl ?_
          refine r_go (t := 26) c307_94 rfl ?_
          exact ih.2 h
theorem d307 {X : (Nat → Int32) × Nat} {d : Nat} {I : Nat → Nat → Int32} {J : Nat → Nat → Int64} {P : Nat → Nat → Value} {e r k r2 k2 : Nat} {x1 : Int32} {q : Int32 × (Nat → Nat → Int32) × (Nat → Nat → Int64)} (hw : pm_W P r k r2 k2)  (h : f307 x1 I J = some q) : pm_Fn X (d + 1) 307 1 [.ref 127, .int x1] (I, J, P, pm_T0, e) (.inl (some (.int q.1))) (q.2.1, q.2.2, P, pm_T0, e) := by
  obtain ⟨hp, hw1, hw2, hw3, hw4, hw5, hw6, hw7, hw8, hw9, hw10, hw11⟩ := id hw
  have hwa := hw5.1
  have hwb := hw6.1
  have hwc := hw7.1
  have hwd := hw8.1
  unfold f307 at h
  refine fn_v rc307 (c := 12) (nf := 59) (by first | rfl | assumption) ml307 rfl rfl rfl rfl ?_
  refine r_ic c307_0 kI0 ?_
  refine is2 c307_1 rfl ?_
  exact (d307_L hw pm_FU).1 h
def f305_44  : Nat → Int32 → Int32 → Int32 → Int32 → (Nat → Nat → Int32) → (Nat → Nat → Int64) → Option (Int32 × (Nat → Nat → Int32) × (Nat → Nat → Int64))
  | 0, _, _, _, _, _, _ => none
  | fu + 1, y2, y3, y4, y5, I, J => (if y5.toInt < (500 : Int32).toInt then (f306 y5 I J).bind (fun (ov3, I4, J5) => (if ov3 = true then f305_44 fu y2 y3 y4 (y5 + 1) I4 J5 else (f307 y5 I4 J5).bind (fun (ov8, I9, J10) => (if y3 = (-1) then f305_44 fu y2 y5 ov8 (y5 + 1) I9 J10 else (if ov8.toInt < y4.toInt then f305_44 fu y2 y5 ov8 (y5 + 1) I9 J10 else f305_44 fu y2 y3 y4 (y5 + 1) I9 J10))))) else (if y2 = 0 then some (y3, I, J) else some (y4, I, J)))
def f305 (x1 : Int32) (x2 : Int32) (I : Nat → Nat → Int32) (J : Nat → Nat → Int64) : Option (Int32 × (Nat → Nat → Int32) × (Nat → Nat → Int64)) := pm_lt (pm_w I 127 0 0) (fun I1 => (f277 x1 1 I1 J).bind (fun (ov2, I3, J4) => (if ov2 = true then (f222 (pm_bi (v241 x2 0 1 I3)) 2 1 I3 J4).bind (fun (ov7, I8, J9) => (if ov7 = true then (f303 x1 I8 J9).bind (fun (ov12, I13, J14) => f305_44 pm_FU x2 (-1) (-1) 0 I13 J14) else some (0, I8, J9))) else some (0, I3, J4))))
theorem d305_44 {X : (Nat → Int32) × Nat} {d : Nat} {P : Nat → Nat → Value} {e r k r2 k2 : Nat}  (hw : pm_W P r k r2 k2)  : ∀ (fu : Nat) {y2 y3 y4 y5 : Int32} {I : Nat → Nat → Int32} {J : Nat → Nat → Int64} {q : Int32 × (Nat → Nat → Int32) × (Nat → Nat → Int64)} {z1 : Value} {z6 : Value} (h : f305_44 fu y2 y3 y4 y5 I J = some q), pm_Fx X (d + 5) 305 44 [.ref 127, z1, .int y2, .int y3, .int y4, .int y5, z6] [] (I, J, P, pm_T0, e) (.inl (some (.int q.1))) (q.2.1, q.2.2, P, pm_T0, e) := by
  obtain ⟨hp, hw1, hw2, hw3, hw4, hw5, hw6, hw7, hw8, hw9, hw10, hw11⟩ := id hw
  have hwa := hw5.1
  have hwb := hw6.1
  have hwc := hw7.1
  have hwd := hw8.1
  intro fu
  induction fu with
  | zero => intro y2 y3 y4 y5 I J q z1 z6 h; cases h
  | succ fu ih =>
    intro y2 y3 y4 y5 I J q z1 z6 h
    rw [f305_44] at h
    refine il5 c305_44 ?_
    refine r_si c305_46 kS500 ?_
    refine r_icge (t := 100) c305_49 rfl (fun h1 => ?_) (fun h1 => ?_)
    · rw [if_neg (Int.not_lt.mpr h1)] at h
      refine il2 c305_100 ?_
      refine r_ifne (t := 108) c305_101 rfl (fun h2 => ?_) (fun h2 => ?_)
      · rw [if_neg h2] at h
        refine il4 c305_108 ?_
        cases h
        exact r_ri c305_110 rt305 rfl rfl
      · rw [if_pos h2] at h
        refine il3 c305_104 ?_
        refine r_go (t := 110) c305_105 rfl ?_
        cases h
        exact r_ri c305_110 rt305 rfl rfl
    · rw [if_pos h1] at h
      refine al0 c305_52 ?_
      refine il5 c305_53 ?_
      obtain ⟨⟨ov3, I4, J5⟩, e6, h⟩ := pm_bd_sp h
      dsimp only at h
      refine cv2 q305_55 (v := .int (pm_bi ov3)) (μ1 := (I4, J5, P, pm_T0, e)) (d306 hw e6) rfl ?_
      refine r_ifeq (t := 64) c305_58 rfl (fun h7 => ?_) (fun h7 => ?_)
      · rw [if_neg (pm_bf h7)] at h
        refine al0 c305_64 ?_
        refine il5 c305_65 ?_
        obtain ⟨⟨ov8, I9, J10⟩, e11, h⟩ := pm_bd_sp h
        dsimp only at h
        refine cv2 q305_67 (v := .int ov8) (μ1 := (I9, J10, P, pm_T0, e)) (d307 hw e11) rfl ?_
        refine is6 c305_70 rfl ?_
        refine il3 c305_72 ?_
        refine r_ic c305_73 kIm1 ?_
        refine r_iceq (t := 87) c305_74 rfl (fun h12 => ?_) (fun h12 => ?_)
        · rw [if_pos h12] at h
          refine il5 c305_87 ?_
          refine is3 c305_89 rfl ?_
          refine il6 c305_90 ?_
          refine is4 c305_92 rfl ?_
          refine ii5 c305_94 kI1 rfl ?_
          refine r_go (t := 44) c305_97 rfl ?_
          exact ih h
        · rw [if_neg h12] at h
          refine il6 c305_77 ?_
          refine il4 c305_79 ?_
          refine r_iclt (t := 87) c305_81 rfl (fun h13 => ?_) (fun h13 => ?_)
          · rw [if_pos h13] at h
            refine il5 c305_87 ?_
            refine is3 c305_89 rfl ?_
            refine il6 c305_90 ?_
            refine is4 c305_92 rfl ?_
            refine ii5 c305_94 kI1 rfl ?_
            refine r_go (t := 44) c305_97 rfl ?_
            exact ih h
          · rw [if_neg (Int.not_lt.mpr h13)] at h
            refine r_go (t := 94) c305_84 rfl ?_
            refine ii5 c305_94 kI1 rfl ?_
            refine r_go (t := 44) c305_97 rfl ?_
            exact ih h
      · rw [if_pos (pm_bt h7)] at h
        refine r_go (t := 94) c305_61 rfl ?_
        refine ii5 c305_94 kI1 rfl ?_
        refine r_go (t := 44) c305_97 rfl ?_
        exact ih h
theorem d305 {X : (Nat → Int32) × Nat} {d : Nat} {I : Nat → Nat → Int32} {J : Nat → Nat → Int64} {P : Nat → Nat → Value} {e r k r2 k2 : Nat} {x1 : Int32} {x2 : Int32} {q : Int32 × (Nat → Nat → Int32) × (Nat → Nat → Int64)} (hw : pm_W P r k r2 k2)  (h : f305 x1 x2 I J = some q) : pm_Fn X (d + 5) 305 1 [.ref 127, .int x1, .int x2] (I, J, P, pm_T0, e) (.inl (some (.int q.1))) (q.2.1, q.2.2, P, pm_T0, e) := by
  obtain ⟨hp, hw1, hw2, hw3, hw4, hw5, hw6, hw7, hw8, hw9, hw10, hw11⟩ := id hw
  have hwa := hw5.1
  have hwb := hw6.1
  have hwc := hw7.1
  have hwd := hw8.1
  unfold f305 at h
  refine fn_v rc305 (c := 12) (nf := 59) (by first | rfl | assumption) ml305 rfl rfl rfl rfl ?_
  refine al0 c305_0 ?_
  refine r_ic c305_1 kI0 ?_
  refine w_pi p305_2 (by first | rfl | assumption) rfl ?_
  rw [pm_lt_eq] at h
  generalize pm_w I 127 0 0 = I1 at h ⊢
  refine al0 c305_5 ?_
  refine il1 c305_6 ?_
  refine r_ic c305_7 kI1 ?_
  obtain ⟨⟨ov2, I3, J4⟩, e5, h⟩ := pm_bd_sp h
  dsimp only at h
  refine cv3 q305_8 (v := .int (pm_bi ov2)) (μ1 := (I3, J4, P, pm_T0, e)) (d277 hw e5) rfl ?_
  refine r_ifeq (t := 29) c305_11 rfl (fun h6 => ?_) (fun h6 => ?_)
  · rw [if_neg (pm_bf h6)] at h
    refine r_ic c305_29 kI0 ?_
    cases h
    exact r_ri c305_30 rt305 rfl rfl
  · rw [if_pos (pm_bt h6)] at h
    refine al0 c305_14 ?_
    refine il2 c305_15 ?_
    refine r_ic c305_16 kI0 ?_
    refine r_ic c305_17 kI1 ?_
    refine cv3 q305_18 (d241 hw rfl) rfl ?_
    refine r_ic c305_21 kI2 ?_
    refine r_ic c305_22 kI1 ?_
    obtain ⟨⟨ov7, I8, J9⟩, e10, h⟩ := pm_bd_sp h
    dsimp only at h
    refine cv4 q305_23 (v := .int (pm_bi ov7)) (μ1 := (I8, J9, P, pm_T0, e)) (d222 hw e10) rfl ?_
    refine r_ifne (t := 31) c305_26 rfl (fun h11 => ?_) (fun h11 => ?_)
    · rw [if_pos (pm_bt h11)] at h
      refine al0 c305_31 ?_
      refine il1 c305_32 ?_
      obtain ⟨⟨ov12, I13, J14⟩, e15, h⟩ := pm_bd_sp h
      dsimp only at h
      refine cz2 q305_33 (μ1 := (I13, J14, P, pm_T0, e)) (d303 hw e15) rfl ?_
      refine r_ic c305_36 kIm1 ?_
      refine is3 c305_37 rfl ?_
      refine r_ic c305_38 kIm1 ?_
      refine is4 c305_39 rfl ?_
      refine r_ic c305_41 kI0 ?_
      refine is5 c305_42 rfl ?_
      exact d305_44 hw pm_FU h
    · rw [if_neg (pm_bf h11)] at h
      refine r_ic c305_29 kI0 ?_
      cases h
      exact r_ri c305_30 rt305 rfl rfl
def f310_5  : Nat → Int64 → Int32 → Int64 → Int32 → (Nat → Nat → Int32) → (Nat → Nat → Int64) → Option (Int64 × (Nat → Nat → Int32) × (Nat → Nat → Int64))
  | 0, _, _, _, _, _, _ => none
  | fu + 1, y0, y2, y3, y5, I, J => (if y5.toInt < y2.toInt then f310_5 fu y0 y2 (y3 * y0) (y5 + 1) I J else some (y3, I, J))
def f310 (x0 : Int64) (x2 : Int32) (I : Nat → Nat → Int32) (J : Nat → Nat → Int64) : Option (Int64 × (Nat → Nat → Int32) × (Nat → Nat → Int64)) := f310_5 pm_FU x0 x2 1 0 I J
theorem d310_5 {X : (Nat → Int32) × Nat} {d : Nat} {P : Nat → Nat → Value} {e r k r2 k2 : Nat}  (hw : pm_W P r k r2 k2)  : ∀ (fu : Nat) {y2 y5 : Int32} {y0 y3 : Int64} {I : Nat → Nat → Int32} {J : Nat → Nat → Int64} {q : Int64 × (Nat → Nat → Int32) × (Nat → Nat → Int64)} (h : f310_5 fu y0 y2 y3 y5 I J = some q), pm_Fx X (d) 310 5 [.long y0, pm_jk, .int y2, .long y3, pm_jk, .int y5] [] (I, J, P, pm_T0, e) (.inl (some (.long q.1))) (q.2.1, q.2.2, P, pm_T0, e) := by
  obtain ⟨hp, hw1, hw2, hw3, hw4, hw5, hw6, hw7, hw8, hw9, hw10, hw11⟩ := id hw
  have hwa := hw5.1
  have hwb := hw6.1
  have hwc := hw7.1
  have hwd := hw8.1
  intro fu
  induction fu with
  | zero => intro y2 y5 y0 y3 I J q h; cases h
  | succ fu ih =>
    intro y2 y5 y0 y3 I J q h
    rw [f310_5] at h
    refine il5 c310_5 ?_
    refine il2 c310_7 ?_
    refine r_icge (t := 21) c310_8 rfl (fun h1 => ?_) (fun h1 => ?_)
    · rw [if_neg (Int.not_lt.mpr h1)] at h
      refine ll3 c310_21 ?_
      cases h
      exact r_rl c310_22 rt310 rfl rfl
    · rw [if_pos h1] at h
      refine ll3 c310_11 ?_
      refine ll0 c310_12 ?_
      refine r_lmul c310_13 ?_
      refine ls3 c310_14 rfl ?_
      refine ii5 c310_15 kI1 rfl ?_
      refine r_go (t := 5) c310_18 rfl ?_
      exact ih h
theorem d310 {X : (Nat → Int32) × Nat} {d : Nat} {I : Nat → Nat → Int32} {J : Nat → Nat → Int64} {P : Nat → Nat → Value} {e r k r2 k2 : Nat} {x0 : Int64} {x2 : Int32} {q : Int64 × (Nat → Nat → Int32) × (Nat → Nat → Int64)} (hw : pm_W P r k r2 k2)  (h : f310 x0 x2 I J = some q) : pm_Fn X (d) 310 0 [.long x0, .int x2] (I, J, P, pm_T0, e) (.inl (some (.long q.1))) (q.2.1, q.2.2, P, pm_T0, e) := by
  obtain ⟨hp, hw1, hw2, hw3, hw4, hw5, hw6, hw7, hw8, hw9, hw10, hw11⟩ := id hw
  have hwa := hw5.1
  have hwb := hw6.1
  have hwc := hw7.1
  have hwd := hw8.1
  unfold f310 at h
  refine fn_s ml310 rfl rfl rfl ?_
  refine r_lc c310_0 kL1 ?_
  refine ls3 c310_1 rfl ?_
  refine r_ic c310_2 kI0 ?_
  refine is5 c310_3 rfl ?_
  exact d310_5 hw pm_FU h
def f309_L  : Nat → Nat → Int32 → Int32 → Int64 → Int32 → Int32 → Int32 → (Nat → Nat → Int32) → (Nat → Nat → Int64) → Option (Int64 × (Nat → Nat → Int32) × (Nat → Nat → Int64))
  | 0, _, _, _, _, _, _, _, _, _ => none
  | fu + 1, 0, y0, y1, y2, y4, _, _, I, J => (if y4.toInt < ((1 : Int32) <<< (y0 &&& 31)).toInt then f309_L fu 1 y0 y1 y2 y4 0 0 I J else some (y2, I, J))
  | fu + 1, _ + 1, y0, y1, y2, y4, y5, y6, I, J => (if y6.toInt < y0.toInt then f309_L fu 1 y0 y1 y2 y4 (y5 + ((y4 >>> (y6 &&& 31)) &&& 1)) (y6 + 1) I J else (if y0.toInt < (2 * y5).toInt then (f310 y1.toInt64 y5 I J).bind (fun (ov4, I5, J6) => (f310 ((16 - y1).toInt64) (y0 - y5) I5 J6).bind (fun (ov8, I9, J10) => f309_L fu 0 y0 y1 (y2 + (ov4 * ov8)) (y4 + 1) 0 0 I9 J10)) else f309_L fu 0 y0 y1 (y2 + 0) (y4 + 1) 0 0 I J))
def f309 (x0 : Int32) (x1 : Int32) (I : Nat → Nat → Int32) (J : Nat → Nat → Int64) : Option (Int64 × (Nat → Nat → Int32) × (Nat → Nat → Int64)) := f309_L pm_FU 0 x0 x1 0 0 0 0 I J
theorem d309_L {X : (Nat → Int32) × Nat} {d : Nat} {P : Nat → Nat → Value} {e r k r2 k2 : Nat}  (hw : pm_W P r k r2 k2)  : ∀ fu : Nat, (∀ {y0 y1 y4 : Int32} {y2 : Int64} {I : Nat → Nat → Int32} {J : Nat → Nat → Int64} {q : Int64 × (Nat → Nat → Int32) × (Nat → Nat → Int64)} {z5 : Value} {z6 : Value} (h : f309_L fu 0 y0 y1 y2 y4 0 0 I J = some q), pm_Fx X (d + 1) 309 5 [.int y0, .int y1, .long y2, pm_jk, .int y4, z5, z6] [] (I, J, P, pm_T0, e) (.inl (some (.long q.1))) (q.2.1, q.2.2, P, pm_T0, e)) ∧ (∀ {y0 y1 y4 y5 y6 : Int32} {y2 : Int64} {I : Nat → Nat → Int32} {J : Nat → Nat → Int64} {q : Int64 × (Nat → Nat → Int32) × (Nat → Nat → Int64)} (h : f309_L fu 1 y0 y1 y2 y4 y5 y6 I J = some q), pm_Fx X (d + 1) 309 19 [.int y0, .int y1, .long y2, pm_jk, .int y4, .int y5, .int y6] [] (I, J, P, pm_T0, e) (.inl (some (.long q.1))) (q.2.1, q.2.2, P, pm_T0, e)) := by
  obtain ⟨hp, hw1, hw2, hw3, hw4, hw5, hw6, hw7, hw8, hw9, hw10, hw11⟩ := id hw
  have hwa := hw5.1
  have hwb := hw6.1
  have hwc := hw7.1
  have hwd := hw8.1
  intro fu
  induction fu with
  | zero => exact ⟨(by intro y0 y1 y4 y2 I J q z5 z6 h; cases h), (by intro y0 y1 y4 y5 y6 y2 I J q h; cases h)⟩
  | succ fu ih =>
    refine ⟨?_, ?_⟩
    · intro y0 y1 y4 y2 I J q z5 z6 h
      rw [f309_L] at h
      refine il4 c309_5 ?_
      refine r_ic c309_7 kI1 ?_
      refine il0 c309_8 ?_
      refine r_ishl c309_9 ?_
      refine r_icge (t := 84) c309_10 rfl (fun h1 => ?_) (fun h1 => ?_)
      · rw [if_neg (Int.not_lt.mpr h1)] at h
        refine ll2 c309_84 ?_
        cases h
        exact r_rl c309_85 rt309 rfl rfl
      · rw [if_pos h1] at h
        refine r_ic c309_13 kI0 ?_
        refine is5 c309_14 rfl ?_
        refine r_ic c309_16 kI0 ?_
        refine is6 c309_17 rfl ?_
        exact ih.2 h
    · intro y0 y1 y4 y5 y6 y2 I J q h
      rw [f309_L] at h
      refine il6 c309_19 ?_
      refine il0 c309_21 ?_
      refine r_icge (t := 43) c309_22 rfl (fun h2 => ?_) (fun h2 => ?_)
      · rw [if_neg (Int.not_lt.mpr h2)] at h
        refine ll2 c309_43 ?_
        refine r_ic c309_44 kI2 ?_
        refine il5 c309_45 ?_
        refine r_imul c309_47 ?_
        refine il0 c309_48 ?_
        refine r_icle (t := 75) c309_49 rfl (fun h3 => ?_) (fun h3 => ?_)
        · rw [if_neg (Int.not_lt.mpr h3)] at h
          refine r_lc c309_75 kL0 ?_
          refine r_ladd c309_76 ?_
          refine ls2 c309_77 rfl ?_
          refine ii4 c309_78 kI1 rfl ?_
          refine r_go (t := 5) c309_81 rfl ?_
          exact ih.1 h
        · rw [if_pos h3] at h
          refine il1 c309_52 ?_
          refine r_i2l c309_53 ?_
          refine il5 c309_54 ?_
          obtain ⟨⟨ov4, I5, J6⟩, e7, h⟩ := pm_bd_sp h
          dsimp only at h
          refine cv2 q309_56 (v := .long ov4) (μ1 := (I5, J6, P, pm_T0, e)) (d310 hw e7) rfl ?_
          refine r_bi c309_59 kB16 ?_
          refine il1 c309_61 ?_
          refine r_isub c309_62 ?_
          refine r_i2l c309_63 ?_
          refine il0 c309_64 ?_
          refine il5 c309_65 ?_
          refine r_isub c309_67 ?_
          obtain ⟨⟨ov8, I9, J10⟩, e11, h⟩ := pm_bd_sp h
          dsimp only at h
          refine cv2 q309_68 (v := .long ov8) (μ1 := (I9, J10, P, pm_T0, e)) (d310 hw e11) rfl ?_
          refine r_lmul c309_71 ?_
          refine r_go (t := 76) c309_72 rfl ?_
          refine r_ladd c309_76 ?_
          refine ls2 c309_77 rfl ?_
          refine ii4 c309_78 kI1 rfl ?_
          refine r_go (t := 5) c309_81 rfl ?_
          exact ih.1 h
      · rw [if_pos h2] at h
        refine il5 c309_25 ?_
        refine il4 c309_27 ?_
        refine il6 c309_29 ?_
        refine r_ishr c309_31 ?_
        refine r_ic c309_32 kI1 ?_
        refine r_iand c309_33 ?_
        refine r_iadd c309_34 ?_
        refine is5 c309_35 rfl ?_
        refine ii6 c309_37 kI1 rfl ?_
        refine r_go (t := 19) c309_40 rfl ?_
        exact ih.2 h
theorem d309 {X : (Nat → Int32) × Nat} {d : Nat} {I : Nat → Nat → Int32} {J : Nat → Nat → Int64} {P : Nat → Nat → Value} {e r k r2 k2 : Nat} {x0 : Int32} {x1 : Int32} {q : Int64 × (Nat → Nat → Int32) × (Nat → Nat → Int64)} (hw : pm_W P r k r2 k2)  (h : f309 x0 x1 I J = some q) : pm_Fn X (d + 1) 309 0 [.int x0, .int x1] (I, J, P, pm_T0, e) (.inl (some (.long q.1))) (q.2.1, q.2.2, P, pm_T0, e) := by
  obtain ⟨hp, hw1, hw2, hw3, hw4, hw5, hw6, hw7, hw8, hw9, hw10, hw11⟩ := id hw
  have hwa := hw5.1
  have hwb := hw6.1
  have hwc := hw7.1
  have hwd := hw8.1
  unfold f309 at h
  refine fn_s ml309 rfl rfl rfl ?_
  refine r_lc c309_0 kL0 ?_
  refine ls2 c309_1 rfl ?_
  refine r_ic c309_2 kI0 ?_
  refine is4 c309_3 rfl ?_
  exact (d309_L hw pm_FU).1 h
def f311_6  : Nat → Int64 → Int64 → Int32 → Int64 → Int64 → (Nat → Nat → Int32) → (Nat → Nat → Int64) → Option (Int64 × (Nat → Nat → Int32) × (Nat → Nat → Int64))
  | 0, _, _, _, _, _, _, _ => none
  | fu + 1, y0, y2, y4, y5, y7, I, J => (if (lg_cmp y7 0) = 0 then (if y4 = 0 then pm_gd (!decide (y5 = 0)) (some (y0 / y5, I, J)) else pm_gd (!decide (y5 = 0)) (some (y2 / y5, I, J))) else pm_gd (!decide (y7 = 0)) (f311_6 fu y0 y2 y4 y7 (y5 - y5 / y7 * y7) I J))
def f311 (x0 : Int64) (x2 : Int64) (x4 : Int32) (I : Nat → Nat → Int32) (J : Nat → Nat → Int64) : Option (Int64 × (Nat → Nat → Int32) × (Nat → Nat → Int64)) := f311_6 pm_FU x0 x2 x4 x0 x2 I J
theorem d311_6 {X : (Nat → Int32) × Nat} {d : Nat} {P : Nat → Nat → Value} {e r k r2 k2 : Nat}  (hw : pm_W P r k r2 k2)  : ∀ (fu : Nat) {y4 : Int32} {y0 y2 y5 y7 : Int64} {I : Nat → Nat → Int32} {J : Nat → Nat → Int64} {q : Int64 × (Nat → Nat → Int32) × (Nat → Nat → Int64)} {z9 : Value} {z10 : Value} (h : f311_6 fu y0 y2 y4 y5 y7 I J = some q), pm_Fx X (d) 311 6 [.long y0, pm_jk, .long y2, pm_jk, .int y4, .long y5, pm_jk, .long y7, pm_jk, z9, z10] [] (I, J, P, pm_T0, e) (.inl (some (.long q.1))) (q.2.1, q.2.2, P, pm_T0, e) := by
  obtain ⟨hp, hw1, hw2, hw3, hw4, hw5, hw6, hw7, hw8, hw9, hw10, hw11⟩ := id hw
  have hwa := hw5.1
  have hwb := hw6.1
  have hwc := hw7.1
  have hwd := hw8.1
  intro fu
  induction fu with
  | zero => intro y4 y0 y2 y5 y7 I J q z9 z10 h; cases h
  | succ fu ih =>
    intro y4 y0 y2 y5 y7 I J q z9 z10 h
    rw [f311_6] at h
    refine ll7 c311_6 ?_
    refine r_lc c311_8 kL0 ?_
    refine r_lcmp c311_9 ?_
    refine r_ifeq (t := 31) c311_10 rfl (fun h1 => ?_) (fun h1 => ?_)
    · rw [if_pos h1] at h
      refine il4 c311_31 ?_
      refine r_ifne (t := 40) c311_33 rfl (fun h2 => ?_) (fun h2 => ?_)
      · rw [if_neg h2] at h
        refine ll2 c311_40 ?_
        refine ll5 c311_41 ?_
        obtain ⟨gd3, h⟩ := pm_gd_sp h
        refine r_ldiv c311_43 (by simpa using gd3) ?_
        cases h
        exact r_rl c311_44 rt311 rfl rfl
      · rw [if_pos h2] at h
        refine ll0 c311_36 ?_
        refine r_go (t := 41) c311_37 rfl ?_
        refine ll5 c311_41 ?_
        obtain ⟨gd4, h⟩ := pm_gd_sp h
        refine r_ldiv c311_43 (by simpa using gd4) ?_
        cases h
        exact r_rl c311_44 rt311 rfl rfl
    · rw [if_neg h1] at h
      refine ll5 c311_13 ?_
      refine ll7 c311_15 ?_
      obtain ⟨gd5, h⟩ := pm_gd_sp h
      refine r_lrem c311_17 (by simpa using gd5) ?_
      refine ls9 c311_18 rfl ?_
      refine ll7 c311_20 ?_
      refine ls5 c311_22 rfl ?_
      refine ll9 c311_24 ?_
      refine ls7 c311_26 rfl ?_
      refine r_go (t := 6) c311_28 rfl ?_
      exact ih h
theorem d311 {X : (Nat → Int32) × Nat} {d : Nat} {I : Nat → Nat → Int32} {J : Nat → Nat → Int64} {P : Nat → Nat → Value} {e r k r2 k2 : Nat} {x0 : Int64} {x2 : Int64} {x4 : Int32} {q : Int64 × (Nat → Nat → Int32) × (Nat → Nat → Int64)} (hw : pm_W P r k r2 k2)  (h : f311 x0 x2 x4 I J = some q) : pm_Fn X (d) 311 0 [.long x0, .long x2, .int x4] (I, J, P, pm_T0, e) (.inl (some (.long q.1))) (q.2.1, q.2.2, P, pm_T0, e) := by
  obtain ⟨hp, hw1, hw2, hw3, hw4, hw5, hw6, hw7, hw8, hw9, hw10, hw11⟩ := id hw
  have hwa := hw5.1
  have hwb := hw6.1
  have hwc := hw7.1
  have hwd := hw8.1
  unfold f311 at h
  refine fn_s ml311 rfl rfl rfl ?_
  refine ll0 c311_0 ?_
  refine ls5 c311_1 rfl ?_
  refine ll2 c311_3 ?_
  refine ls7 c311_4 rfl ?_
  exact d311_6 hw pm_FU h
def f308 (x1 : Int32) (x2 : Int32) (x3 : Int32) (I : Nat → Nat → Int32) (J : Nat → Nat → Int64) : Option (Int64 × (Nat → Nat → Int32) × (Nat → Nat → Int64)) := pm_lt (pm_w I 127 0 0) (fun I1 => (if (v241 x1 1 9 I1) = true then (if (x1 - x1 / 2 * 2) = 1 then (if (v241 x2 0 16 I1) = true then (if (v241 x3 0 1 I1) = true then (f222 1 1 1 I1 J).bind (fun (ov74, I75, J76) => (if ov74 = true then (f309 x1 x2 I75 J76).bind (fun (ov79, I80, J81) => (f310 16 x1 I80 J81).bind (fun (ov83, I84, J85) => (f311 ov79 ov83 x3 I84 J85).bind (fun (ov87, I88, J89) => some (ov87, I88, J89)))) else some (0, I75, J76))) else (f222 0 1 1 I1 J).bind (fun (ov57, I58, J59) => (if ov57 = true then (f309 x1 x2 I58 J59).bind (fun (ov62, I63, J64) => (f310 16 x1 I63 J64).bind (fun (ov66, I67, J68) => (f311 ov62 ov66 x3 I67 J68).bind (fun (ov70, I71, J72) => some (ov70, I71, J72)))) else some (0, I58, J59)))) else (f222 0 1 1 I1 J).bind (fun (ov39, I40, J41) => (if ov39 = true then (f309 x1 x2 I40 J41).bind (fun (ov44, I45, J46) => (f310 16 x1 I45 J46).bind (fun (ov48, I49, J50) => (f311 ov44 ov48 x3 I49 J50).bind (fun (ov52, I53, J54) => some (ov52, I53, J54)))) else some (0, I40, J41)))) else (f222 0 1 1 I1 J).bind (fun (ov21, I22, J23) => (if ov21 = true then (f309 x1 x2 I22 J23).bind (fun (ov26, I27, J28) => (f310 16 x1 I27 J28).bind (fun (ov30, I31, J32) => (f311 ov26 ov30 x3 I31 J32).bind (fun (ov34, I35, J36) => some (ov34, I35, J36)))) else some (0, I22, J23)))) else (f222 0 1 1 I1 J).bind (fun (ov3, I4, J5) => (if ov3 = true then (f309 x1 x2 I4 J5).bind (fun (ov8, I9, J10) => (f310 16 x1 I9 J10).bind (fun (ov12, I13, J14) => (f311 ov8 ov12 x3 I13 J14).bind (fun (ov16, I17, J18) => some (ov16, I17, J18)))) else some (0, I4, J5)))))
theorem d308 {X : (Nat → Int32) × Nat} {d : Nat} {I : Nat → Nat → Int32} {J : Nat → Nat → Int64} {P : Nat → Nat → Value} {e r k r2 k2 : Nat} {x1 : Int32} {x2 : Int32} {x3 : Int32} {q : Int64 × (Nat → Nat → Int32) × (Nat → Nat → Int64)} (hw : pm_W P r k r2 k2)  (h : f308 x1 x2 x3 I J = some q) : pm_Fn X (d + 2) 308 1 [.ref 127, .int x1, .int x2, .int x3] (I, J, P, pm_T0, e) (.inl (some (.long q.1))) (q.2.1, q.2.2, P, pm_T0, e) := by
  obtain ⟨hp, hw1, hw2, hw3, hw4, hw5, hw6, hw7, hw8, hw9, hw10, hw11⟩ := id hw
  have hwa := hw5.1
  have hwb := hw6.1
  have hwc := hw7.1
  have hwd := hw8.1
  unfold f308 at h
  refine fn_v rc308 (c := 12) (nf := 59) (by first | rfl | assumption) ml308 rfl rfl rfl rfl ?_
  refine al0 c308_0 ?_
  refine r_ic c308_1 kI0 ?_
  refine w_pi p308_2 (by first | rfl | assumption) rfl ?_
  rw [pm_lt_eq] at h
  generalize pm_w I 127 0 0 = I1 at h ⊢
  refine al0 c308_5 ?_
  refine il1 c308_6 ?_
  refine r_ic c308_7 kI1 ?_
  refine r_bi c308_8 kB9 ?_
  refine cv3 q308_10 (d241 hw rfl) rfl ?_
  refine r_ifeq (t := 46) c308_13 rfl (fun h2 => ?_) (fun h2 => ?_)
  · rw [if_neg (pm_bf h2)] at h
    refine r_ic c308_46 kI0 ?_
    refine r_ic c308_47 kI1 ?_
    refine r_ic c308_48 kI1 ?_
    obtain ⟨⟨ov3, I4, J5⟩, e6, h⟩ := pm_bd_sp h
    dsimp only at h
    refine cv4 q308_49 (v := .int (pm_bi ov3)) (μ1 := (I4, J5, P, pm_T0, e)) (d222 hw e6) rfl ?_
    refine r_ifne (t := 57) c308_52 rfl (fun h7 => ?_) (fun h7 => ?_)
    · rw [if_pos (pm_bt h7)] at h
      refine il1 c308_57 ?_
      refine il2 c308_58 ?_
      obtain ⟨⟨ov8, I9, J10⟩, e11, h⟩ := pm_bd_sp h
      dsimp only at h
      refine cv2 q308_59 (v := .long ov8) (μ1 := (I9, J10, P, pm_T0, e)) (d309 hw e11) rfl ?_
      refine r_kl v308_62 ?_
      refine il1 c308_65 ?_
      obtain ⟨⟨ov12, I13, J14⟩, e15, h⟩ := pm_bd_sp h
      dsimp only at h
      refine cv2 q308_66 (v := .long ov12) (μ1 := (I13, J14, P, pm_T0, e)) (d310 hw e15) rfl ?_
      refine il3 c308_69 ?_
      obtain ⟨⟨ov16, I17, J18⟩, e19, h⟩ := pm_bd_sp h
      dsimp only at h
      refine cv3 q308_70 (v := .long ov16) (μ1 := (I17, J18, P, pm_T0, e)) (d311 hw e19) rfl ?_
      cases h
      exact r_rl c308_73 rt308 rfl rfl
    · rw [if_neg (pm_bf h7)] at h
      refine r_lc c308_55 kL0 ?_
      cases h
      exact r_rl c308_56 rt308 rfl rfl
  · rw [if_pos (pm_bt h2)] at h
    refine il1 c308_16 ?_
    refine r_ic c308_17 kI2 ?_
    refine r_irem c308_18 (by decide) ?_
    refine r_ic c308_19 kI1 ?_
    refine r_icne (t := 46) c308_20 rfl (fun h20 => ?_) (fun h20 => ?_)
    · rw [if_neg h20] at h
      refine r_ic c308_46 kI0 ?_
      refine r_ic c308_47 kI1 ?_
      refine r_ic c308_48 kI1 ?_
      obtain ⟨⟨ov21, I22, J23⟩, e24, h⟩ := pm_bd_sp h
      dsimp only at h
      refine cv4 q308_49 (v := .int (pm_bi ov21)) (μ1 := (I22, J23, P, pm_T0, e)) (d222 hw e24) rfl ?_
      refine r_ifne (t := 57) c308_52 rfl (fun h25 => ?_) (fun h25 => ?_)
      · rw [if_pos (pm_bt h25)] at h
        refine il1 c308_57 ?_
        refine il2 c308_58 ?_
        obtain ⟨⟨ov26, I27, J28⟩, e29, h⟩ := pm_bd_sp h
        dsimp only at h
        refine cv2 q308_59 (v := .long ov26) (μ1 := (I27, J28, P, pm_T0, e)) (d309 hw e29) rfl ?_
        refine r_kl v308_62 ?_
        refine il1 c308_65 ?_
        obtain ⟨⟨ov30, I31, J32⟩, e33, h⟩ := pm_bd_sp h
        dsimp only at h
        refine cv2 q308_66 (v := .long ov30) (μ1 := (I31, J32, P, pm_T0, e)) (d310 hw e33) rfl ?_
        refine il3 c308_69 ?_
        obtain ⟨⟨ov34, I35, J36⟩, e37, h⟩ := pm_bd_sp h
        dsimp only at h
        refine cv3 q308_70 (v := .long ov34) (μ1 := (I35, J36, P, pm_T0, e)) (d311 hw e37) rfl ?_
        cases h
        exact r_rl c308_73 rt308 rfl rfl
      · rw [if_neg (pm_bf h25)] at h
        refine r_lc c308_55 kL0 ?_
        cases h
        exact r_rl c308_56 rt308 rfl rfl
    · rw [if_pos h20] at h
      refine il2 c308_23 ?_
      refine r_ic c308_24 kI0 ?_
      refine r_bi c308_25 kB16 ?_
      refine cv3 q308_27 (d241 hw rfl) rfl ?_
      refine r_ifeq (t := 46) c308_30 rfl (fun h38 => ?_) (fun h38 => ?_)
      · rw [if_neg (pm_bf h38)] at h
        refine r_ic c308_46 kI0 ?_
        refine r_ic c308_47 kI1 ?_
        refine r_ic c308_48 kI1 ?_
        obtain ⟨⟨ov39, I40, J41⟩, e42, h⟩ := pm_bd_sp h
        dsimp only at h
        refine cv4 q308_49 (v := .int (pm_bi ov39)) (μ1 := (I40, J41, P, pm_T0, e)) (d222 hw e42) rfl ?_
        refine r_ifne (t := 57) c308_52 rfl (fun h43 => ?_) (fun h43 => ?_)
        · rw [if_pos (pm_bt h43)] at h
          refine il1 c308_57 ?_
          refine il2 c308_58 ?_
          obtain ⟨⟨ov44, I45, J46⟩, e47, h⟩ := pm_bd_sp h
          dsimp only at h
          refine cv2 q308_59 (v := .long ov44) (μ1 := (I45, J46, P, pm_T0, e)) (d309 hw e47) rfl ?_
          refine r_kl v308_62 ?_
          refine il1 c308_65 ?_
          obtain ⟨⟨ov48, I49, J50⟩, e51, h⟩ := pm_bd_sp h
          dsimp only at h
          refine cv2 q308_66 (v := .long ov48) (μ1 := (I49, J50, P, pm_T0, e)) (d310 hw e51) rfl ?_
          refine il3 c308_69 ?_
          obtain ⟨⟨ov52, I53, J54⟩, e55, h⟩ := pm_bd_sp h
          dsimp only at h
          refine cv3 q308_70 (v := .long ov52) (μ1 := (I53, J54, P, pm_T0, e)) (d311 hw e55) rfl ?_
          cases h
          exact r_rl c308_73 rt308 rfl rfl
        · rw [if_neg (pm_bf h43)] at h
          refine r_lc c308_55 kL0 ?_
          cases h
          exact r_rl c308_56 rt308 rfl rfl
      · rw [if_pos (pm_bt h38)] at h
        refine il3 c308_33 ?_
        refine r_ic c308_34 kI0 ?_
        refine r_ic c308_35 kI1 ?_
        refine cv3 q308_36 (d241 hw rfl) rfl ?_
        refine r_ifeq (t := 46) c308_39 rfl (fun h56 => ?_) (fun h56 => ?_)
        · rw [if_neg (pm_bf h56)] at h
          refine r_ic c308_46 kI0 ?_
          refine r_ic c308_47 kI1 ?_
          refine r_ic c308_48 kI1 ?_
          obtain ⟨⟨ov57, I58, J59⟩, e60, h⟩ := pm_bd_sp h
          dsimp only at h
          refine cv4 q308_49 (v := .int (pm_bi ov57)) (μ1 := (I58, J59, P, pm_T0, e)) (d222 hw e60) rfl ?_
          refine r_ifne (t := 57) c308_52 rfl (fun h61 => ?_) (fun h61 => ?_)
          · rw [if_pos (pm_bt h61)] at h
            refine il1 c308_57 ?_
            refine il2 c308_58 ?_
            obtain ⟨⟨ov62, I63, J64⟩, e65, h⟩ := pm_bd_sp h
            dsimp only at h
            refine cv2 q308_59 (v := .long ov62) (μ1 := (I63, J64, P, pm_T0, e)) (d309 hw e65) rfl ?_
            refine r_kl v308_62 ?_
            refine il1 c308_65 ?_
            obtain ⟨⟨ov66, I67, J68⟩, e69, h⟩ := pm_bd_sp h
            dsimp only at h
            refine cv2 q308_66 (v := .long ov66) (μ1 := (I67, J68, P, pm_T0, e)) (d310 hw e69) rfl ?_
            refine il3 c308_69 ?_
            obtain ⟨⟨ov70, I71, J72⟩, e73, h⟩ := pm_bd_sp h
            dsimp only at h
            refine cv3 q308_70 (v := .long ov70) (μ1 := (I71, J72, P, pm_T0, e)) (d311 hw e73) rfl ?_
            cases h
            exact r_rl c308_73 rt308 rfl rfl
          · rw [if_neg (pm_bf h61)] at h
            refine r_lc c308_55 kL0 ?_
            cases h
            exact r_rl c308_56 rt308 rfl rfl
        · rw [if_pos (pm_bt h56)] at h
          refine r_ic c308_42 kI1 ?_
          refine r_go (t := 47) c308_43 rfl ?_
          refine r_ic c308_47 kI1 ?_
          refine r_ic c308_48 kI1 ?_
          obtain ⟨⟨ov74, I75, J76⟩, e77, h⟩ := pm_bd_sp h
          dsimp only at h
          refine cv4 q308_49 (v := .int (pm_bi ov74)) (μ1 := (I75, J76, P, pm_T0, e)) (d222 hw e77) rfl ?_
          refine r_ifne (t := 57) c308_52 rfl (fun h78 => ?_) (fun h78 => ?_)
          · rw [if_pos (pm_bt h78)] at h
            refine il1 c308_57 ?_
            refine il2 c308_58 ?_
            obtain ⟨⟨ov79, I80, J81⟩, e82, h⟩ := pm_bd_sp h
            dsimp only at h
            refine cv2 q308_59 (v := .long ov79) (μ1 := (I80, J81, P, pm_T0, e)) (d309 hw e82) rfl ?_
            refine r_kl v308_62 ?_
            refine il1 c308_65 ?_
            obtain ⟨⟨ov83, I84, J85⟩, e86, h⟩ := pm_bd_sp h
            dsimp only at h
            refine cv2 q308_66 (v := .long ov83) (μ1 := (I84, J85, P, pm_T0, e)) (d310 hw e86) rfl ?_
            refine il3 c308_69 ?_
            obtain ⟨⟨ov87, I88, J89⟩, e90, h⟩ := pm_bd_sp h
            dsimp only at h
            refine cv3 q308_70 (v := .long ov87) (μ1 := (I88, J89, P, pm_T0, e)) (d311 hw e90) rfl ?_
            cases h
            exact r_rl c308_73 rt308 rfl rfl
          · rw [if_neg (pm_bf h78)] at h
            refine r_lc c308_55 kL0 ?_
            cases h
            exact r_rl c308_56 rt308 rfl rfl
def f312_43  : Nat → Int32 → Int32 → Int32 → (Nat → Nat → Int32) → (Nat → Nat → Int64) → Option (Int32 × (Nat → Nat → Int32) × (Nat → Nat → Int64))
  | 0, _, _, _, _, _ => none
  | fu + 1, y1, y2, y3, I, J => (if (9 : Int32).toInt < y3.toInt then some ((-1), I, J) else (f309 y3 y1 I J).bind (fun (ov2, I3, J4) => (f310 16 y3 I3 J4).bind (fun (ov6, I7, J8) => (if (lg_cmp (16 * ov2) (y2.toInt64 * ov6)).toInt < 0 then f312_43 fu y1 y2 (y3 + 2) I7 J8 else some (y3, I7, J8)))))
def f312 (x1 : Int32) (x2 : Int32) (I : Nat → Nat → Int32) (J : Nat → Nat → Int64) : Option (Int32 × (Nat → Nat → Int32) × (Nat → Nat → Int64)) := pm_lt (pm_w I 127 0 0) (fun I1 => (if (v241 x1 0 16 I1) = true then (if (v241 x2 0 16 I1) = true then (f222 1 1 1 I1 J).bind (fun (ov14, I15, J16) => (if ov14 = true then f312_43 pm_FU x1 x2 1 I15 J16 else some (0, I15, J16))) else (f222 0 1 1 I1 J).bind (fun (ov9, I10, J11) => (if ov9 = true then f312_43 pm_FU x1 x2 1 I10 J11 else some (0, I10, J11)))) else (f222 0 1 1 I1 J).bind (fun (ov3, I4, J5) => (if ov3 = true then f312_43 pm_FU x1 x2 1 I4 J5 else some (0, I4, J5)))))
theorem d312_43 {X : (Nat → Int32) × Nat} {d : Nat} {P : Nat → Nat → Value} {e r k r2 k2 : Nat}  (hw : pm_W P r k r2 k2)  : ∀ (fu : Nat) {y1 y2 y3 : Int32} {I : Nat → Nat → Int32} {J : Nat → Nat → Int64} {q : Int32 × (Nat → Nat → Int32) × (Nat → Nat → Int64)} {z0 : Value} (h : f312_43 fu y1 y2 y3 I J = some q), pm_Fx X (d + 2) 312 43 [z0, .int y1, .int y2, .int y3] [] (I, J, P, pm_T0, e) (.inl (some (.int q.1))) (q.2.1, q.2.2, P, pm_T0, e) := by
  obtain ⟨hp, hw1, hw2, hw3, hw4, hw5, hw6, hw7, hw8, hw9, hw10, hw11⟩ := id hw
  have hwa := hw5.1
  have hwb := hw6.1
  have hwc := hw7.1
  have hwd := hw8.1
  intro fu
  induction fu with
  | zero => intro y1 y2 y3 I J q z0 h; cases h
  | succ fu ih =>
    intro y1 y2 y3 I J q z0 h
    rw [f312_43] at h
    refine il3 c312_43 ?_
    refine r_bi c312_44 kB9 ?_
    refine r_icgt (t := 80) c312_46 rfl (fun h1 => ?_) (fun h1 => ?_)
    · rw [if_pos h1] at h
      refine r_ic c312_80 kIm1 ?_
      cases h
      exact r_ri c312_81 rt312 rfl rfl
    · rw [if_neg (Int.not_lt.mpr h1)] at h
      refine r_kl v312_49 ?_
      refine il3 c312_52 ?_
      refine il1 c312_53 ?_
      obtain ⟨⟨ov2, I3, J4⟩, e5, h⟩ := pm_bd_sp h
      dsimp only at h
      refine cv2 q312_54 (v := .long ov2) (μ1 := (I3, J4, P, pm_T0, e)) (d309 hw e5) rfl ?_
      refine r_lmul c312_57 ?_
      refine il2 c312_58 ?_
      refine r_i2l c312_59 ?_
      refine r_kl v312_60 ?_
      refine il3 c312_63 ?_
      obtain ⟨⟨ov6, I7, J8⟩, e9, h⟩ := pm_bd_sp h
      dsimp only at h
      refine cv2 q312_64 (v := .long ov6) (μ1 := (I7, J8, P, pm_T0, e)) (d310 hw e9) rfl ?_
      refine r_lmul c312_67 ?_
      refine r_lcmp c312_68 ?_
      refine r_iflt (t := 74) c312_69 rfl (fun h10 => ?_) (fun h10 => ?_)
      · rw [if_pos h10] at h
        refine ii3 c312_74 kI2 rfl ?_
        refine r_go (t := 43) c312_77 rfl ?_
        exact ih h
      · rw [if_neg (Int.not_lt.mpr h10)] at h
        refine il3 c312_72 ?_
        cases h
        exact r_ri c312_73 rt312 rfl rfl
theorem d312 {X : (Nat → Int32) × Nat} {d : Nat} {I : Nat → Nat → Int32} {J : Nat → Nat → Int64} {P : Nat → Nat → Value} {e r k r2 k2 : Nat} {x1 : Int32} {x2 : Int32} {q : Int32 × (Nat → Nat → Int32) × (Nat → Nat → Int64)} (hw : pm_W P r k r2 k2)  (h : f312 x1 x2 I J = some q) : pm_Fn X (d + 2) 312 1 [.ref 127, .int x1, .int x2] (I, J, P, pm_T0, e) (.inl (some (.int q.1))) (q.2.1, q.2.2, P, pm_T0, e) := by
  obtain ⟨hp, hw1, hw2, hw3, hw4, hw5, hw6, hw7, hw8, hw9, hw10, hw11⟩ := id hw
  have hwa := hw5.1
  have hwb := hw6.1
  have hwc := hw7.1
  have hwd := hw8.1
  unfold f312 at h
  refine fn_v rc312 (c := 12) (nf := 59) (by first | rfl | assumption) ml312 rfl rfl rfl rfl ?_
  refine al0 c312_0 ?_
  refine r_ic c312_1 kI0 ?_
  refine w_pi p312_2 (by first | rfl | assumption) rfl ?_
  rw [pm_lt_eq] at h
  generalize pm_w I 127 0 0 = I1 at h ⊢
  refine al0 c312_5 ?_
  refine il1 c312_6 ?_
  refine r_ic c312_7 kI0 ?_
  refine r_bi c312_8 kB16 ?_
  refine cv3 q312_10 (d241 hw rfl) rfl ?_
  refine r_ifeq (t := 30) c312_13 rfl (fun h2 => ?_) (fun h2 => ?_)
  · rw [if_neg (pm_bf h2)] at h
    refine r_ic c312_30 kI0 ?_
    refine r_ic c312_31 kI1 ?_
    refine r_ic c312_32 kI1 ?_
    obtain ⟨⟨ov3, I4, J5⟩, e6, h⟩ := pm_bd_sp h
    dsimp only at h
    refine cv4 q312_33 (v := .int (pm_bi ov3)) (μ1 := (I4, J5, P, pm_T0, e)) (d222 hw e6) rfl ?_
    refine r_ifne (t := 41) c312_36 rfl (fun h7 => ?_) (fun h7 => ?_)
    · rw [if_pos (pm_bt h7)] at h
      refine r_ic c312_41 kI1 ?_
      refine is3 c312_42 rfl ?_
      exact d312_43 hw pm_FU h
    · rw [if_neg (pm_bf h7)] at h
      refine r_ic c312_39 kI0 ?_
      cases h
      exact r_ri c312_40 rt312 rfl rfl
  · rw [if_pos (pm_bt h2)] at h
    refine il2 c312_16 ?_
    refine r_ic c312_17 kI0 ?_
    refine r_bi c312_18 kB16 ?_
    refine cv3 q312_20 (d241 hw rfl) rfl ?_
    refine r_ifeq (t := 30) c312_23 rfl (fun h8 => ?_) (fun h8 => ?_)
    · rw [if_neg (pm_bf h8)] at h
      refine r_ic c312_30 kI0 ?_
      refine r_ic c312_31 kI1 ?_
      refine r_ic c312_32 kI1 ?_
      obtain ⟨⟨ov9, I10, J11⟩, e12, h⟩ := pm_bd_sp h
      dsimp only at h
      refine cv4 q312_33 (v := .int (pm_bi ov9)) (μ1 := (I10, J11, P, pm_T0, e)) (d222 hw e12) rfl ?_
      refine r_ifne (t := 41) c312_36 rfl (fun h13 => ?_) (fun h13 => ?_)
      · rw [if_pos (pm_bt h13)] at h
        refine r_ic c312_41 kI1 ?_
        refine is3 c312_42 rfl ?_
        exact d312_43 hw pm_FU h
      · rw [if_neg (pm_bf h13)] at h
        refine r_ic c312_39 kI0 ?_
        cases h
        exact r_ri c312_40 rt312 rfl rfl
    · rw [if_pos (pm_bt h8)] at h
      refine r_ic c312_26 kI1 ?_
      refine r_go (t := 31) c312_27 rfl ?_
      refine r_ic c312_31 kI1 ?_
      refine r_ic c312_32 kI1 ?_
      obtain ⟨⟨ov14, I15, J16⟩, e17, h⟩ := pm_bd_sp h
      dsimp only at h
      refine cv4 q312_33 (v := .int (pm_bi ov14)) (μ1 := (I15, J16, P, pm_T0, e)) (d222 hw e17) rfl ?_
      refine r_ifne (t := 41) c312_36 rfl (fun h18 => ?_) (fun h18 => ?_)
      · rw [if_pos (pm_bt h18)] at h
        refine r_ic c312_41 kI1 ?_
        refine is3 c312_42 rfl ?_
        exact d312_43 hw pm_FU h
      · rw [if_neg (pm_bf h18)] at h
        refine r_ic c312_39 kI0 ?_
        cases h
        exact r_ri c312_40 rt312 rfl rfl
def f313_60  : Nat → Int32 → Int32 → Int64 → Int32 → (Nat → Nat → Int32) → (Nat → Nat → Int64) → Option (Int32 × (Nat → Nat → Int32) × (Nat → Nat → Int64))
  | 0, _, _, _, _, _, _ => none
  | fu + 1, y2, y3, y4, y6, I, J => (if (600 : Int32).toInt < y6.toInt then some ((-1), I, J) else (if (lg_cmp y4 1000000000).toInt < 0 then (if 0 < (lg_cmp y4 0).toInt then f313_60 fu y2 y3 ((y4 + ((y4 * y3.toInt64) / 1000)) - y2.toInt64) (y6 + 1) I J else some (y6, I, J)) else some ((-1), I, J)))
def f313 (x1 : Int32) (x2 : Int32) (x3 : Int32) (I : Nat → Nat → Int32) (J : Nat → Nat → Int64) : Option (Int32 × (Nat → Nat → Int32) × (Nat → Nat → Int64)) := pm_lt (pm_w I 127 0 0) (fun I1 => (if (v241 x1 0 9999 I1) = true then (if (v241 x2 0 999 I1) = true then (if (v241 x3 0 100 I1) = true then (f222 1 1 1 I1 J).bind (fun (ov20, I21, J22) => (if ov20 = true then f313_60 pm_FU x2 x3 x1.toInt64 0 I21 J22 else some (0, I21, J22))) else (f222 0 1 1 I1 J).bind (fun (ov15, I16, J17) => (if ov15 = true then f313_60 pm_FU x2 x3 x1.toInt64 0 I16 J17 else some (0, I16, J17)))) else (f222 0 1 1 I1 J).bind (fun (ov9, I10, J11) => (if ov9 = true then f313_60 pm_FU x2 x3 x1.toInt64 0 I10 J11 else some (0, I10, J11)))) else (f222 0 1 1 I1 J).bind (fun (ov3, I4, J5) => (if ov3 = true then f313_60 pm_FU x2 x3 x1.toInt64 0 I4 J5 else some (0, I4, J5)))))
theorem d313_60 {X : (Nat → Int32) × Nat} {d : Nat} {P : Nat → Nat → Value} {e r k r2 k2 : Nat}  (hw : pm_W P r k r2 k2)  : ∀ (fu : Nat) {y2 y3 y6 : Int32} {y4 : Int64} {I : Nat → Nat → Int32} {J : Nat → Nat → Int64} {q : Int32 × (Nat → Nat → Int32) × (Nat → Nat → Int64)} {z0 : Value} {z1 : Value} (h : f313_60 fu y2 y3 y4 y6 I J = some q), pm_Fx X (d + 1) 313 60 [z0, z1, .int y2, .int y3, .long y4, pm_jk, .int y6] [] (I, J, P, pm_T0, e) (.inl (some (.int q.1))) (q.2.1, q.2.2, P, pm_T0, e) := by
  obtain ⟨hp, hw1, hw2, hw3, hw4, hw5, hw6, hw7, hw8, hw9, hw10, hw11⟩ := id hw
  have hwa := hw5.1
  have hwb := hw6.1
  have hwc := hw7.1
  have hwd := hw8.1
  intro fu
  induction fu with
  | zero => intro y2 y3 y6 y4 I J q z0 z1 h; cases h
  | succ fu ih =>
    intro y2 y3 y6 y4 I J q z0 z1 h
    rw [f313_60] at h
    refine il6 c313_60 ?_
    refine r_si c313_62 kS600 ?_
    refine r_icgt (t := 114) c313_65 rfl (fun h1 => ?_) (fun h1 => ?_)
    · rw [if_pos h1] at h
      refine r_ic c313_114 kIm1 ?_
      cases h
      exact r_ri c313_115 rt313 rfl rfl
    · rw [if_neg (Int.not_lt.mpr h1)] at h
      refine ll4 c313_68 ?_
      refine r_kl v313_70 ?_
      refine r_lcmp c313_73 ?_
      refine r_ifge (t := 114) c313_74 rfl (fun h2 => ?_) (fun h2 => ?_)
      · rw [if_neg (Int.not_lt.mpr h2)] at h
        refine r_ic c313_114 kIm1 ?_
        cases h
        exact r_ri c313_115 rt313 rfl rfl
      · rw [if_pos h2] at h
        refine ll4 c313_77 ?_
        refine r_lc c313_79 kL0 ?_
        refine r_lcmp c313_80 ?_
        refine r_ifgt (t := 87) c313_81 rfl (fun h3 => ?_) (fun h3 => ?_)
        · rw [if_pos h3] at h
          refine ll4 c313_87 ?_
          refine ll4 c313_89 ?_
          refine il3 c313_91 ?_
          refine r_i2l c313_92 ?_
          refine r_lmul c313_93 ?_
          refine r_kl v313_94 ?_
          refine r_ldiv c313_97 (by decide) ?_
          refine r_ladd c313_98 ?_
          refine ls4 c313_99 rfl ?_
          refine ll4 c313_101 ?_
          refine il2 c313_103 ?_
          refine r_i2l c313_104 ?_
          refine r_lsub c313_105 ?_
          refine ls4 c313_106 rfl ?_
          refine ii6 c313_108 kI1 rfl ?_
          refine r_go (t := 60) c313_111 rfl ?_
          exact ih h
        · rw [if_neg (Int.not_lt.mpr h3)] at h
          refine il6 c313_84 ?_
          cases h
          exact r_ri c313_86 rt313 rfl rfl
theorem d313 {X : (Nat → Int32) × Nat} {d : Nat} {I : Nat → Nat → Int32} {J : Nat → Nat → Int64} {P : Nat → Nat → Value} {e r k r2 k2 : Nat} {x1 : Int32} {x2 : Int32} {x3 : Int32} {q : Int32 × (Nat → Nat → Int32) × (Nat → Nat → Int64)} (hw : pm_W P r k r2 k2)  (h : f313 x1 x2 x3 I J = some q) : pm_Fn X (d + 1) 313 1 [.ref 127, .int x1, .int x2, .int x3] (I, J, P, pm_T0, e) (.inl (some (.int q.1))) (q.2.1, q.2.2, P, pm_T0, e) := by
  obtain ⟨hp, hw1, hw2, hw3, hw4, hw5, hw6, hw7, hw8, hw9, hw10, hw11⟩ := id hw
  have hwa := hw5.1
  have hwb := hw6.1
  have hwc := hw7.1
  have hwd := hw8.1
  unfold f313 at h
  refine fn_v rc313 (c := 12) (nf := 59) (by first | rfl | assumption) ml313 rfl rfl rfl rfl ?_
  refine al0 c313_0 ?_
  refine r_ic c313_1 kI0 ?_
  refine w_pi p313_2 (by first | rfl | assumption) rfl ?_
  rw [pm_lt_eq] at h
  generalize pm_w I 127 0 0 = I1 at h ⊢
  refine al0 c313_5 ?_
  refine il1 c313_6 ?_
  refine r_ic c313_7 kI0 ?_
  refine r_si c313_8 kS9999 ?_
  refine cv3 q313_11 (d241 hw rfl) rfl ?_
  refine r_ifeq (t := 42) c313_14 rfl (fun h2 => ?_) (fun h2 => ?_)
  · rw [if_neg (pm_bf h2)] at h
    refine r_ic c313_42 kI0 ?_
    refine r_ic c313_43 kI1 ?_
    refine r_ic c313_44 kI1 ?_
    obtain ⟨⟨ov3, I4, J5⟩, e6, h⟩ := pm_bd_sp h
    dsimp only at h
    refine cv4 q313_45 (v := .int (pm_bi ov3)) (μ1 := (I4, J5, P, pm_T0, e)) (d222 hw e6) rfl ?_
    refine r_ifne (t := 53) c313_48 rfl (fun h7 => ?_) (fun h7 => ?_)
    · rw [if_pos (pm_bt h7)] at h
      refine il1 c313_53 ?_
      refine r_i2l c313_54 ?_
      refine ls4 c313_55 rfl ?_
      refine r_ic c313_57 kI0 ?_
      refine is6 c313_58 rfl ?_
      exact d313_60 hw pm_FU h
    · rw [if_neg (pm_bf h7)] at h
      refine r_ic c313_51 kI0 ?_
      cases h
      exact r_ri c313_52 rt313 rfl rfl
  · rw [if_pos (pm_bt h2)] at h
    refine il2 c313_17 ?_
    refine r_ic c313_18 kI0 ?_
    refine r_si c313_19 kS999 ?_
    refine cv3 q313_22 (d241 hw rfl) rfl ?_
    refine r_ifeq (t := 42) c313_25 rfl (fun h8 => ?_) (fun h8 => ?_)
    · rw [if_neg (pm_bf h8)] at h
      refine r_ic c313_42 kI0 ?_
      refine r_ic c313_43 kI1 ?_
      refine r_ic c313_44 kI1 ?_
      obtain ⟨⟨ov9, I10, J11⟩, e12, h⟩ := pm_bd_sp h
      dsimp only at h
      refine cv4 q313_45 (v := .int (pm_bi ov9)) (μ1 := (I10, J11, P, pm_T0, e)) (d222 hw e12) rfl ?_
      refine r_ifne (t := 53) c313_48 rfl (fun h13 => ?_) (fun h13 => ?_)
      · rw [if_pos (pm_bt h13)] at h
        refine il1 c313_53 ?_
        refine r_i2l c313_54 ?_
        refine ls4 c313_55 rfl ?_
        refine r_ic c313_57 kI0 ?_
        refine is6 c313_58 rfl ?_
        exact d313_60 hw pm_FU h
      · rw [if_neg (pm_bf h13)] at h
        refine r_ic c313_51 kI0 ?_
        cases h
        exact r_ri c313_52 rt313 rfl rfl
    · rw [if_pos (pm_bt h8)] at h
      refine il3 c313_28 ?_
      refine r_ic c313_29 kI0 ?_
      refine r_bi c313_30 kB100 ?_
      refine cv3 q313_32 (d241 hw rfl) rfl ?_
      refine r_ifeq (t := 42) c313_35 rfl (fun h14 => ?_) (fun h14 => ?_)
      · rw [if_neg (pm_bf h14)] at h
        refine r_ic c313_42 kI0 ?_
        refine r_ic c313_43 kI1 ?_
        refine r_ic c313_44 kI1 ?_
        obtain ⟨⟨ov15, I16, J17⟩, e18, h⟩ := pm_bd_sp h
        dsimp only at h
        refine cv4 q313_45 (v := .int (pm_bi ov15)) (μ1 := (I16, J17, P, pm_T0, e)) (d222 hw e18) rfl ?_
        refine r_ifne (t := 53) c313_48 rfl (fun h19 => ?_) (fun h19 => ?_)
        · rw [if_pos (pm_bt h19)] at h
          refine il1 c313_53 ?_
          refine r_i2l c313_54 ?_
          refine ls4 c313_55 rfl ?_
          refine r_ic c313_57 kI0 ?_
          refine is6 c313_58 rfl ?_
          exact d313_60 hw pm_FU h
        · rw [if_neg (pm_bf h19)] at h
          refine r_ic c313_51 kI0 ?_
          cases h
          exact r_ri c313_52 rt313 rfl rfl
      · rw [if_pos (pm_bt h14)] at h
        refine r_ic c313_38 kI1 ?_
        refine r_go (t := 43) c313_39 rfl ?_
        refine r_ic c313_43 kI1 ?_
        refine r_ic c313_44 kI1 ?_
        obtain ⟨⟨ov20, I21, J22⟩, e23, h⟩ := pm_bd_sp h
        dsimp only at h
        refine cv4 q313_45 (v := .int (pm_bi ov20)) (μ1 := (I21, J22, P, pm_T0, e)) (d222 hw e23) rfl ?_
        refine r_ifne (t := 53) c313_48 rfl (fun h24 => ?_) (fun h24 => ?_)
        · rw [if_pos (pm_bt h24)] at h
          refine il1 c313_53 ?_
          refine r_i2l c313_54 ?_
          refine ls4 c313_55 rfl ?_
          refine r_ic c313_57 kI0 ?_
          refine is6 c313_58 rfl ?_
          exact d313_60 hw pm_FU h
        · rw [if_neg (pm_bf h24)] at h
          refine r_ic c313_51 kI0 ?_
          cases h
          exact r_ri c313_52 rt313 rfl rfl
def f314_L  : Nat → Nat → Int32 → Int32 → Int32 → Int32 → Int32 → (Nat → Nat → Int32) → (Nat → Nat → Int64) → Option (Int32 × (Nat → Nat → Int32) × (Nat → Nat → Int64))
  | 0, _, _, _, _, _, _, _, _ => none
  | fu + 1, 0, y1, y2, y3, _, _, I, J => (if y3.toInt < (5 : Int32).toInt then pm_gd (pm_in y3 5) (pm_lt (pm_w I 155 (y3).toNatClampNeg 0) (fun I3 => f314_L fu 0 y1 y2 (y3 + 1) 0 0 I3 J)) else f314_L fu 1 y1 y2 0 0 0 I J)
  | fu + 1, 1, y1, y2, y3, _, _, I, J => (if y3.toInt < y2.toInt then f314_L fu 2 y1 y2 y3 (-1) 0 I J else pm_gd (pm_in y1 5) (some (I 155 (y1).toNatClampNeg, I, J)))
  | fu + 1, _ + 2, y1, y2, y3, y4, y5, I, J => (if y5.toInt < (I 127 19).toInt then (f259 y5 I J).bind (fun (ov11, I12, J13) => (if 0 < ov11.toInt then (if y4 = (-1) then f314_L fu 2 y1 y2 y3 y5 (y5 + 1) I12 J13 else (f259 y5 I12 J13).bind (fun (ov17, I18, J19) => pm_gd (pm_in y4 5) ((f259 y4 I18 J19).bind (fun (ov22, I23, J24) => pm_gd (pm_in y5 5) ((if (ov22 * (1 + (I23 155 (y5).toNatClampNeg))).toInt < (ov17 * (1 + (I18 155 (y4).toNatClampNeg))).toInt then f314_L fu 2 y1 y2 y3 y5 (y5 + 1) I23 J24 else f314_L fu 2 y1 y2 y3 y4 (y5 + 1) I23 J24)))))) else f314_L fu 2 y1 y2 y3 y4 (y5 + 1) I12 J13)) else (if y4 = (-1) then f314_L fu 1 y1 y2 (y3 + 1) 0 0 I J else pm_gd (pm_in y4 5) (pm_gd (pm_in y4 5) (pm_lt (pm_w I 155 (y4).toNatClampNeg ((I 155 (y4).toNatClampNeg) + 1)) (fun I10 => f314_L fu 1 y1 y2 (y3 + 1) 0 0 I10 J)))))
def f314 (x1 : Int32) (x2 : Int32) (I : Nat → Nat → Int32) (J : Nat → Nat → Int64) : Option (Int32 × (Nat → Nat → Int32) × (Nat → Nat → Int64)) := pm_lt (pm_w I 127 0 0) (fun I1 => (f279 x1 1 I1 J).bind (fun (ov2, I3, J4) => (if ov2 = true then (f222 (pm_bi (v241 x2 0 99 I3)) 2 1 I3 J4).bind (fun (ov7, I8, J9) => (if ov7 = true then (f253  I8 J9).bind (fun (ov12, I13, J14) => f314_L pm_FU 0 x1 x2 0 0 0 I13 J14) else some (0, I8, J9))) else some (0, I3, J4))))
theorem d314_L {X : (Nat → Int32) × Nat} {d : Nat} {P : Nat → Nat → Value} {e r k r2 k2 : Nat}  (hw : pm_W P r k r2 k2)  : ∀ fu : Nat, (∀ {y1 y2 y3 : Int32} {I : Nat → Nat → Int32} {J : Nat → Nat → Int64} {q : Int32 × (Nat → Nat → Int32) × (Nat → Nat → Int64)} {z4 : Value} {z5 : Value} (h : f314_L fu 0 y1 y2 y3 0 0 I J = some q), pm_Fx X (d + 2) 314 38 [.ref 127, .int y1, .int y2, .int y3, z4, z5] [] (I, J, P, pm_T0, e) (.inl (some (.int q.1))) (q.2.1, q.2.2, P, pm_T0, e)) ∧ (∀ {y1 y2 y3 : Int32} {I : Nat → Nat → Int32} {J : Nat → Nat → Int64} {q : Int32 × (Nat → Nat → Int32) × (Nat → Nat → Int64)} {z4 : Value} {z5 : Value} (h : f314_L fu 1 y1 y2 y3 0 0 I J = some q), pm_Fx X (d + 2) 314 58 [.ref 127, .int y1, .int y2, .int y3, z4, z5] [] (I, J, P, pm_T0, e) (.inl (some (.int q.1))) (q.2.1, q.2.2, P, pm_T0, e)) ∧ (∀ {y1 y2 y3 y4 y5 : Int32} {I : Nat → Nat → Int32} {J : Nat → Nat → Int64} {q : Int32 × (Nat → Nat → Int32) × (Nat → Nat → Int64)} (h : f314_L fu 2 y1 y2 y3 y4 y5 I J = some q), pm_Fx X (d + 2) 314 69 [.ref 127, .int y1, .int y2, .int y3, .int y4, .int y5] [] (I, J, P, pm_T0, e) (.inl (some (.int q.1))) (q.2.1, q.2.2, P, pm_T0, e)) := by
  obtain ⟨hp, hw1, hw2, hw3, hw4, hw5, hw6, hw7, hw8, hw9, hw10, hw11⟩ := id hw
  have hwa := hw5.1
  have hwb := hw6.1
  have hwc := hw7.1
  have hwd := hw8.1
  intro fu
  induction fu with
  | zero => exact ⟨(by intro y1 y2 y3 I J q z4 z5 h; cases h), (by intro y1 y2 y3 I J q z4 z5 h; cases h), (by intro y1 y2 y3 y4 y5 I J q h; cases h)⟩
  | succ fu ih =>
    refine ⟨?_, ?_, ?_⟩
    · intro y1 y2 y3 I J q z4 z5 h
      rw [f314_L] at h
      refine il3 c314_38 ?_
      refine r_ic c314_39 kI5 ?_
      refine r_icge (t := 56) c314_40 rfl (fun h1 => ?_) (fun h1 => ?_)
      · rw [if_neg (Int.not_lt.mpr h1)] at h
        refine r_ic c314_56 kI0 ?_
        refine is3 c314_57 rfl ?_
        exact ih.2.1 h
      · rw [if_pos h1] at h
        refine al0 c314_43 ?_
        refine r_gr g314_44 rfl rfl (hp _ _ _ rfl) ?_
        refine il3 c314_47 ?_
        refine r_ic c314_48 kI0 ?_
        obtain ⟨gd2, h⟩ := pm_gd_sp h
        refine w_ist c314_49 (by first | rfl | assumption) gd2 ?_
        rw [pm_lt_eq] at h
        generalize pm_w I 155 (y3).toNatClampNeg 0 = I3 at h ⊢
        refine ii3 c314_50 kI1 rfl ?_
        refine r_go (t := 38) c314_53 rfl ?_
        exact ih.1 h
    · intro y1 y2 y3 I J q z4 z5 h
      rw [f314_L] at h
      refine il3 c314_58 ?_
      refine il2 c314_59 ?_
      refine r_icge (t := 161) c314_60 rfl (fun h4 => ?_) (fun h4 => ?_)
      · rw [if_neg (Int.not_lt.mpr h4)] at h
        refine al0 c314_161 ?_
        refine r_gr g314_162 rfl rfl (hp _ _ _ rfl) ?_
        refine il1 c314_165 ?_
        obtain ⟨gd5, h⟩ := pm_gd_sp h
        refine w_ia c314_166 (by first | rfl | assumption) gd5 ?_
        cases h
        exact r_ri c314_167 rt314 rfl rfl
      · rw [if_pos h4] at h
        refine r_ic c314_63 kIm1 ?_
        refine is4 c314_64 rfl ?_
        refine r_ic c314_66 kI0 ?_
        refine is5 c314_67 rfl ?_
        exact ih.2.2 h
    · intro y1 y2 y3 y4 y5 I J q h
      rw [f314_L] at h
      refine il5 c314_69 ?_
      refine al0 c314_71 ?_
      refine r_gi g314_72 (by first | rfl | assumption) rfl ?_
      refine r_icge (t := 138) c314_75 rfl (fun h6 => ?_) (fun h6 => ?_)
      · rw [if_neg (Int.not_lt.mpr h6)] at h
        refine il4 c314_138 ?_
        refine r_ic c314_140 kIm1 ?_
        refine r_iceq (t := 155) c314_141 rfl (fun h7 => ?_) (fun h7 => ?_)
        · rw [if_pos h7] at h
          refine ii3 c314_155 kI1 rfl ?_
          refine r_go (t := 58) c314_158 rfl ?_
          exact ih.2.1 h
        · rw [if_neg h7] at h
          refine al0 c314_144 ?_
          refine r_gr g314_145 rfl rfl (hp _ _ _ rfl) ?_
          refine il4 c314_148 ?_
          refine r_dp2 c314_150 ?_
          obtain ⟨gd8, h⟩ := pm_gd_sp h
          refine w_ia c314_151 (by first | rfl | assumption) gd8 ?_
          refine r_ic c314_152 kI1 ?_
          refine r_iadd c314_153 ?_
          obtain ⟨gd9, h⟩ := pm_gd_sp h
          refine w_ist c314_154 (by first | rfl | assumption) gd9 ?_
          rw [pm_lt_eq] at h
          generalize pm_w I 155 (y4).toNatClampNeg ((I 155 (y4).toNatClampNeg) + 1) = I10 at h ⊢
          refine ii3 c314_155 kI1 rfl ?_
          refine r_go (t := 58) c314_158 rfl ?_
          exact ih.2.1 h
      · rw [if_pos h6] at h
        refine al0 c314_78 ?_
        refine il5 c314_79 ?_
        obtain ⟨⟨ov11, I12, J13⟩, e14, h⟩ := pm_bd_sp h
        dsimp only at h
        refine cv2 q314_81 (v := .int ov11) (μ1 := (I12, J13, P, pm_T0, e)) (d259 hw e14) rfl ?_
        refine r_ifle (t := 132) c314_84 rfl (fun h15 => ?_) (fun h15 => ?_)
        · rw [if_neg (Int.not_lt.mpr h15)] at h
          refine ii5 c314_132 kI1 rfl ?_
          refine r_go (t := 69) c314_135 rfl ?_
          exact ih.2.2 h
        · rw [if_pos h15] at h
          refine il4 c314_87 ?_
          refine r_ic c314_89 kIm1 ?_
          refine r_iceq (t := 128) c314_90 rfl (fun h16 => ?_) (fun h16 => ?_)
          · rw [if_pos h16] at h
            refine il5 c314_128 ?_
            refine is4 c314_130 rfl ?_
            refine ii5 c314_132 kI1 rfl ?_
            refine r_go (t := 69) c314_135 rfl ?_
            exact ih.2.2 h
          · rw [if_neg h16] at h
            refine al0 c314_93 ?_
            refine il5 c314_94 ?_
            obtain ⟨⟨ov17, I18, J19⟩, e20, h⟩ := pm_bd_sp h
            dsimp only at h
            refine cv2 q314_96 (v := .int ov17) (μ1 := (I18, J19, P, pm_T0, e)) (d259 hw e20) rfl ?_
            refine r_ic c314_99 kI1 ?_
            refine al0 c314_100 ?_
            refine r_gr g314_101 rfl rfl (hp _ _ _ rfl) ?_
            refine il4 c314_104 ?_
            obtain ⟨gd21, h⟩ := pm_gd_sp h
            refine w_ia c314_106 (by first | rfl | assumption) gd21 ?_
            refine r_iadd c314_107 ?_
            refine r_imul c314_108 ?_
            refine al0 c314_109 ?_
            refine il4 c314_110 ?_
            obtain ⟨⟨ov22, I23, J24⟩, e25, h⟩ := pm_bd_sp h
            dsimp only at h
            refine cv2 q314_112 (v := .int ov22) (μ1 := (I23, J24, P, pm_T0, e)) (d259 hw e25) rfl ?_
            refine r_ic c314_115 kI1 ?_
            refine al0 c314_116 ?_
            refine r_gr g314_117 rfl rfl (hp _ _ _ rfl) ?_
            refine il5 c314_120 ?_
            obtain ⟨gd26, h⟩ := pm_gd_sp h
            refine w_ia c314_122 (by first | rfl | assumption) gd26 ?_
            refine r_iadd c314_123 ?_
            refine r_imul c314_124 ?_
            refine r_icle (t := 132) c314_125 rfl (fun h27 => ?_) (fun h27 => ?_)
            · rw [if_neg (Int.not_lt.mpr h27)] at h
              refine ii5 c314_132 kI1 rfl ?_
              refine r_go (t := 69) c314_135 rfl ?_
              exact ih.2.2 h
            · rw [if_pos h27] at h
              refine il5 c314_128 ?_
              refine is4 c314_130 rfl ?_
              refine ii5 c314_132 kI1 rfl ?_
              refine r_go (t := 69) c314_135 rfl ?_
              exact ih.2.2 h
theorem d314 {X : (Nat → Int32) × Nat} {d : Nat} {I : Nat → Nat → Int32} {J : Nat → Nat → Int64} {P : Nat → Nat → Value} {e r k r2 k2 : Nat} {x1 : Int32} {x2 : Int32} {q : Int32 × (Nat → Nat → Int32) × (Nat → Nat → Int64)} (hw : pm_W P r k r2 k2)  (h : f314 x1 x2 I J = some q) : pm_Fn X (d + 2) 314 1 [.ref 127, .int x1, .int x2] (I, J, P, pm_T0, e) (.inl (some (.int q.1))) (q.2.1, q.2.2, P, pm_T0, e) := by
  obtain ⟨hp, hw1, hw2, hw3, hw4, hw5, hw6, hw7, hw8, hw9, hw10, hw11⟩ := id hw
  have hwa := hw5.1
  have hwb := hw6.1
  have hwc := hw7.1
  have hwd := hw8.1
  unfold f314 at h
  refine fn_v rc314 (c := 12) (nf := 59) (by first | rfl | assumption) ml314 rfl rfl rfl rfl ?_
  refine al0 c314_0 ?_
  refine r_ic c314_1 kI0 ?_
  refine w_pi p314_2 (by first | rfl | assumption) rfl ?_
  rw [pm_lt_eq] at h
  generalize pm_w I 127 0 0 = I1 at h ⊢
  refine al0 c314_5 ?_
  refine il1 c314_6 ?_
  refine r_ic c314_7 kI1 ?_
  obtain ⟨⟨ov2, I3, J4⟩, e5, h⟩ := pm_bd_sp h
  dsimp only at h
  refine cv3 q314_8 (v := .int (pm_bi ov2)) (μ1 := (I3, J4, P, pm_T0, e)) (d279 hw e5) rfl ?_
  refine r_ifeq (t := 30) c314_11 rfl (fun h6 => ?_) (fun h6 => ?_)
  · rw [if_neg (pm_bf h6)] at h
    refine r_ic c314_30 kI0 ?_
    cases h
    exact r_ri c314_31 rt314 rfl rfl
  · rw [if_pos (pm_bt h6)] at h
    refine al0 c314_14 ?_
    refine il2 c314_15 ?_
    refine r_ic c314_16 kI0 ?_
    refine r_bi c314_17 kB99 ?_
    refine cv3 q314_19 (d241 hw rfl) rfl ?_
    refine r_ic c314_22 kI2 ?_
    refine r_ic c314_23 kI1 ?_
    obtain ⟨⟨ov7, I8, J9⟩, e10, h⟩ := pm_bd_sp h
    dsimp only at h
    refine cv4 q314_24 (v := .int (pm_bi ov7)) (μ1 := (I8, J9, P, pm_T0, e)) (d222 hw e10) rfl ?_
    refine r_ifne (t := 32) c314_27 rfl (fun h11 => ?_) (fun h11 => ?_)
    · rw [if_pos (pm_bt h11)] at h
      refine al0 c314_32 ?_
      obtain ⟨⟨ov12, I13, J14⟩, e15, h⟩ := pm_bd_sp h
      dsimp only at h
      refine cz1 q314_33 (μ1 := (I13, J14, P, pm_T0, e)) (d253 hw e15) rfl ?_
      refine r_ic c314_36 kI0 ?_
      refine is3 c314_37 rfl ?_
      exact (d314_L hw pm_FU).1 h
    · rw [if_neg (pm_bf h11)] at h
      refine r_ic c314_30 kI0 ?_
      cases h
      exact r_ri c314_31 rt314 rfl rfl
def v317 (x0 : Int32) (x1 : Int32) (x2 : Int32) (I : Nat → Nat → Int32) : Int32 := (if x1.toInt < x0.toInt then x2 - x0 else (if x0 = x1 then (x2 - x0) / 2 else 0))
theorem d317 {X : (Nat → Int32) × Nat} {d : Nat} {I : Nat → Nat → Int32} {J : Nat → Nat → Int64} {P : Nat → Nat → Value} {e r k r2 k2 : Nat} {x0 : Int32} {x1 : Int32} {x2 : Int32} {q : Int32} (hw : pm_W P r k r2 k2)  (h : v317 x0 x1 x2 I = q) : pm_Fn X (d) 317 0 [.int x0, .int x1, .int x2] (I, J, P, pm_T0, e) (.inl (some (.int q))) (I, J, P, pm_T0, e) := by
  obtain ⟨hp, hw1, hw2, hw3, hw4, hw5, hw6, hw7, hw8, hw9, hw10, hw11⟩ := id hw
  have hwa := hw5.1
  have hwb := hw6.1
  have hwc := hw7.1
  have hwd := hw8.1
  unfold v317 at h
  refine fn_s ml317 rfl rfl rfl ?_
  refine il0 c317_0 ?_
  refine il1 c317_1 ?_
  refine r_icle (t := 11) c317_2 rfl (fun h1 => ?_) (fun h1 => ?_)
  · rw [if_neg (Int.not_lt.mpr h1)] at h
    refine il0 c317_11 ?_
    refine il1 c317_12 ?_
    refine r_icne (t := 24) c317_13 rfl (fun h2 => ?_) (fun h2 => ?_)
    · rw [if_neg h2] at h
      refine r_ic c317_24 kI0 ?_
      cases h
      exact r_ri c317_25 rt317 rfl rfl
    · rw [if_pos h2] at h
      refine il2 c317_16 ?_
      refine il0 c317_17 ?_
      refine r_isub c317_18 ?_
      refine r_ic c317_19 kI2 ?_
      refine r_idiv c317_20 (by decide) ?_
      refine r_go (t := 25) c317_21 rfl ?_
      cases h
      exact r_ri c317_25 rt317 rfl rfl
  · rw [if_pos h1] at h
    refine il2 c317_5 ?_
    refine il0 c317_6 ?_
    refine r_isub c317_7 ?_
    refine r_go (t := 25) c317_8 rfl ?_
    cases h
    exact r_ri c317_25 rt317 rfl rfl
def f316_3  : Nat → Int32 → Int32 → Int32 → Int32 → Int32 → Int32 → (Nat → Nat → Int32) → (Nat → Nat → Int64) → Option (Bool × (Nat → Nat → Int32) × (Nat → Nat → Int64))
  | 0, _, _, _, _, _, _, _, _ => none
  | fu + 1, y0, y1, y2, y3, y4, y5, I, J => (if y2.toInt < y5.toInt then some (true, I, J) else (if (v317 y0 y1 y3 I).toInt < (v317 y5 y1 y3 I).toInt then some (false, I, J) else (if (v317 y1 y0 y4 I).toInt < (v317 y5 y0 y4 I).toInt then some (false, I, J) else f316_3 fu y0 y1 y2 y3 y4 (y5 + 1) I J)))
def f316 (x0 : Int32) (x1 : Int32) (x2 : Int32) (x3 : Int32) (x4 : Int32) (I : Nat → Nat → Int32) (J : Nat → Nat → Int64) : Option (Bool × (Nat → Nat → Int32) × (Nat → Nat → Int64)) := f316_3 pm_FU x0 x1 x2 x3 x4 0 I J
theorem d316_3 {X : (Nat → Int32) × Nat} {d : Nat} {P : Nat → Nat → Value} {e r k r2 k2 : Nat}  (hw : pm_W P r k r2 k2)  : ∀ (fu : Nat) {y0 y1 y2 y3 y4 y5 : Int32} {I : Nat → Nat → Int32} {J : Nat → Nat → Int64} {q : Bool × (Nat → Nat → Int32) × (Nat → Nat → Int64)} (h : f316_3 fu y0 y1 y2 y3 y4 y5 I J = some q), pm_Fx X (d + 1) 316 3 [.int y0, .int y1, .int y2, .int y3, .int y4, .int y5] [] (I, J, P, pm_T0, e) (.inl (some (.int (pm_bi q.1)))) (q.2.1, q.2.2, P, pm_T0, e) := by
  obtain ⟨hp, hw1, hw2, hw3, hw4, hw5, hw6, hw7, hw8, hw9, hw10, hw11⟩ := id hw
  have hwa := hw5.1
  have hwb := hw6.1
  have hwc := hw7.1
  have hwd := hw8.1
  intro fu
  induction fu with
  | zero => intro y0 y1 y2 y3 y4 y5 I J q h; cases h
  | succ fu ih =>
    intro y0 y1 y2 y3 y4 y5 I J q h
    rw [f316_3] at h
    refine il5 c316_3 ?_
    refine il2 c316_5 ?_
    refine r_icgt (t := 51) c316_6 rfl (fun h1 => ?_) (fun h1 => ?_)
    · rw [if_pos h1] at h
      refine r_ic c316_51 kI1 ?_
      cases h
      exact r_rz c316_52 rt316 (by decide) rfl rfl
    · rw [if_neg (Int.not_lt.mpr h1)] at h
      refine il5 c316_9 ?_
      refine il1 c316_11 ?_
      refine il3 c316_12 ?_
      refine cv3 q316_13 (d317 hw rfl) rfl ?_
      refine il0 c316_16 ?_
      refine il1 c316_17 ?_
      refine il3 c316_18 ?_
      refine cv3 q316_19 (d317 hw rfl) rfl ?_
      refine r_icgt (t := 43) c316_22 rfl (fun h2 => ?_) (fun h2 => ?_)
      · rw [if_pos h2] at h
        refine r_ic c316_43 kI0 ?_
        cases h
        exact r_rz c316_44 rt316 (by decide) rfl rfl
      · rw [if_neg (Int.not_lt.mpr h2)] at h
        refine il5 c316_25 ?_
        refine il0 c316_27 ?_
        refine il4 c316_28 ?_
        refine cv3 q316_30 (d317 hw rfl) rfl ?_
        refine il1 c316_33 ?_
        refine il0 c316_34 ?_
        refine il4 c316_35 ?_
        refine cv3 q316_37 (d317 hw rfl) rfl ?_
        refine r_icle (t := 45) c316_40 rfl (fun h3 => ?_) (fun h3 => ?_)
        · rw [if_neg (Int.not_lt.mpr h3)] at h
          refine ii5 c316_45 kI1 rfl ?_
          refine r_go (t := 3) c316_48 rfl ?_
          exact ih h
        · rw [if_pos h3] at h
          refine r_ic c316_43 kI0 ?_
          cases h
          exact r_rz c316_44 rt316 (by decide) rfl rfl
theorem d316 {X : (Nat → Int32) × Nat} {d : Nat} {I : Nat → Nat → Int32} {J : Nat → Nat → Int64} {P : Nat → Nat → Value} {e r k r2 k2 : Nat} {x0 : Int32} {x1 : Int32} {x2 : Int32} {x3 : Int32} {x4 : Int32} {q : Bool × (Nat → Nat → Int32) × (Nat → Nat → Int64)} (hw : pm_W P r k r2 k2)  (h : f316 x0 x1 x2 x3 x4 I J = some q) : pm_Fn X (d + 1) 316 0 [.int x0, .int x1, .int x2, .int x3, .int x4] (I, J, P, pm_T0, e) (.inl (some (.int (pm_bi q.1)))) (q.2.1, q.2.2, P, pm_T0, e) := by
  obtain ⟨hp, hw1, hw2, hw3, hw4, hw5, hw6, hw7, hw8, hw9, hw10, hw11⟩ := id hw
  have hwa := hw5.1
  have hwb := hw6.1
  have hwc := hw7.1
  have hwd := hw8.1
  unfold f316 at h
  refine fn_s ml316 rfl rfl rfl ?_
  refine r_ic c316_0 kI0 ?_
  refine is5 c316_1 rfl ?_
  exact d316_3 hw pm_FU h
def f315_70  : Nat → Int32 → Int32 → Int32 → Int32 → Int32 → Int32 → Int32 → (Nat → Nat → Int32) → (Nat → Nat → Int64) → Option (Int32 × (Nat → Nat → Int32) × (Nat → Nat → Int64))
  | 0, _, _, _, _, _, _, _, _, _ => none
  | fu + 1, y1, y2, y3, y4, y5, y6, y7, I, J => (if y7.toInt < ((y1 + 1) * (y1 + 1)).toInt then pm_gd (!decide ((y1 + 1) = 0)) (pm_gd (!decide ((y1 + 1) = 0)) ((f316 (y7 / (y1 + 1)) (y7 - y7 / (y1 + 1) * (y1 + 1)) y1 y2 y3 I J).bind (fun (ov7, I8, J9) => (if ov7 = true then (if y6 = (-1) then pm_gd (!decide ((y1 + 1) = 0)) (pm_gd (!decide ((y1 + 1) = 0)) (f315_70 fu y1 y2 y3 y4 (y5 + 1) ((100 * (y7 / (y1 + 1))) + (y7 - y7 / (y1 + 1) * (y1 + 1))) (y7 + 1) I8 J9)) else f315_70 fu y1 y2 y3 y4 (y5 + 1) y6 (y7 + 1) I8 J9) else f315_70 fu y1 y2 y3 y4 y5 y6 (y7 + 1) I8 J9)))) else (if y4 = 0 then some (y5, I, J) else (if y4 = 1 then some (y6, I, J) else (if y6 = (-1) then some (0, I, J) else some ((v317 (y6 / 100) (y6 - y6 / 100 * 100) y2 I) + (v317 (y6 - y6 / 100 * 100) (y6 / 100) y3 I), I, J)))))
def f315 (x1 : Int32) (x2 : Int32) (x3 : Int32) (x4 : Int32) (I : Nat → Nat → Int32) (J : Nat → Nat → Int64) : Option (Int32 × (Nat → Nat → Int32) × (Nat → Nat → Int64)) := pm_lt (pm_w I 127 0 0) (fun I1 => (if (v241 x1 0 20 I1) = true then (if (v241 x2 0 99 I1) = true then (if (v241 x3 0 99 I1) = true then (if (v241 x4 0 2 I1) = true then (f222 1 1 1 I1 J).bind (fun (ov26, I27, J28) => (if ov26 = true then f315_70 pm_FU x1 x2 x3 x4 0 (-1) 0 I27 J28 else some (0, I27, J28))) else (f222 0 1 1 I1 J).bind (fun (ov21, I22, J23) => (if ov21 = true then f315_70 pm_FU x1 x2 x3 x4 0 (-1) 0 I22 J23 else some (0, I22, J23)))) else (f222 0 1 1 I1 J).bind (fun (ov15, I16, J17) => (if ov15 = true then f315_70 pm_FU x1 x2 x3 x4 0 (-1) 0 I16 J17 else some (0, I16, J17)))) else (f222 0 1 1 I1 J).bind (fun (ov9, I10, J11) => (if ov9 = true then f315_70 pm_FU x1 x2 x3 x4 0 (-1) 0 I10 J11 else some (0, I10, J11)))) else (f222 0 1 1 I1 J).bind (fun (ov3, I4, J5) => (if ov3 = true then f315_70 pm_FU x1 x2 x3 x4 0 (-1) 0 I4 J5 else some (0, I4, J5)))))
theorem d315_70 {X : (Nat → Int32) × Nat} {d : Nat} {P : Nat → Nat → Value} {e r k r2 k2 : Nat}  (hw : pm_W P r k r2 k2)  : ∀ (fu : Nat) {y1 y2 y3 y4 y5 y6 y7 : Int32} {I : Nat → Nat → Int32} {J : Nat → Nat → Int64} {q : Int32 × (Nat → Nat → Int32) × (Nat → Nat → Int64)} {z0 : Value} (h : f315_70 fu y1 y2 y3 y4 y5 y6 y7 I J = some q), pm_Fx X (d + 2) 315 70 [z0, .int y1, .int y2, .int y3, .int y4, .int y5, .int y6, .int y7] [] (I, J, P, pm_T0, e) (.inl (some (.int q.1))) (q.2.1, q.2.2, P, pm_T0, e) := by
  obtain ⟨hp, hw1, hw2, hw3, hw4, hw5, hw6, hw7, hw8, hw9, hw10, hw11⟩ := id hw
  have hwa := hw5.1
  have hwb := hw6.1
  have hwc := hw7.1
  have hwd := hw8.1
  intro fu
  induction fu with
  | zero => intro y1 y2 y3 y4 y5 y6 y7 I J q z0 h; cases h
  | succ fu ih =>
    intro y1 y2 y3 y4 y5 y6 y7 I J q z0 h
    rw [f315_70] at h
    refine il7 c315_70 ?_
    refine il1 c315_72 ?_
    refine r_ic c315_73 kI1 ?_
    refine r_iadd c315_74 ?_
    refine il1 c315_75 ?_
    refine r_ic c315_76 kI1 ?_
    refine r_iadd c315_77 ?_
    refine r_imul c315_78 ?_
    refine r_icge (t := 144) c315_79 rfl (fun h1 => ?_) (fun h1 => ?_)
    · rw [if_neg (Int.not_lt.mpr h1)] at h
      refine il4 c315_144 ?_
      refine r_ifne (t := 154) c315_146 rfl (fun h2 => ?_) (fun h2 => ?_)
      · rw [if_neg h2] at h
        refine il4 c315_154 ?_
        refine r_ic c315_156 kI1 ?_
        refine r_icne (t := 165) c315_157 rfl (fun h3 => ?_) (fun h3 => ?_)
        · rw [if_neg h3] at h
          refine il6 c315_165 ?_
          refine r_ic c315_167 kIm1 ?_
          refine r_icne (t := 175) c315_168 rfl (fun h4 => ?_) (fun h4 => ?_)
          · rw [if_neg h4] at h
            refine il6 c315_175 ?_
            refine r_bi c315_177 kB100 ?_
            refine r_idiv c315_179 (by decide) ?_
            refine il6 c315_180 ?_
            refine r_bi c315_182 kB100 ?_
            refine r_irem c315_184 (by decide) ?_
            refine il2 c315_185 ?_
            refine cv3 q315_186 (d317 hw rfl) rfl ?_
            refine il6 c315_189 ?_
            refine r_bi c315_191 kB100 ?_
            refine r_irem c315_193 (by decide) ?_
            refine il6 c315_194 ?_
            refine r_bi c315_196 kB100 ?_
            refine r_idiv c315_198 (by decide) ?_
            refine il3 c315_199 ?_
            refine cv3 q315_200 (d317 hw rfl) rfl ?_
            refine r_iadd c315_203 ?_
            cases h
            exact r_ri c315_204 rt315 rfl rfl
          · rw [if_pos h4] at h
            refine r_ic c315_171 kI0 ?_
            refine r_go (t := 204) c315_172 rfl ?_
            cases h
            exact r_ri c315_204 rt315 rfl rfl
        · rw [if_pos h3] at h
          refine il6 c315_160 ?_
          refine r_go (t := 204) c315_162 rfl ?_
          cases h
          exact r_ri c315_204 rt315 rfl rfl
      · rw [if_pos h2] at h
        refine il5 c315_149 ?_
        refine r_go (t := 204) c315_151 rfl ?_
        cases h
        exact r_ri c315_204 rt315 rfl rfl
    · rw [if_pos h1] at h
      refine il7 c315_82 ?_
      refine il1 c315_84 ?_
      refine r_ic c315_85 kI1 ?_
      refine r_iadd c315_86 ?_
      obtain ⟨gd5, h⟩ := pm_gd_sp h
      refine r_idiv c315_87 (by simpa using gd5) ?_
      refine il7 c315_88 ?_
      refine il1 c315_90 ?_
      refine r_ic c315_91 kI1 ?_
      refine r_iadd c315_92 ?_
      obtain ⟨gd6, h⟩ := pm_gd_sp h
      refine r_irem c315_93 (by simpa using gd6) ?_
      refine il1 c315_94 ?_
      refine il2 c315_95 ?_
      refine il3 c315_96 ?_
      obtain ⟨⟨ov7, I8, J9⟩, e10, h⟩ := pm_bd_sp h
      dsimp only at h
      refine cv5 q315_97 (v := .int (pm_bi ov7)) (μ1 := (I8, J9, P, pm_T0, e)) (d316 hw e10) rfl ?_
      refine r_ifne (t := 106) c315_100 rfl (fun h11 => ?_) (fun h11 => ?_)
      · rw [if_pos (pm_bt h11)] at h
        refine ii5 c315_106 kI1 rfl ?_
        refine il6 c315_109 ?_
        refine r_ic c315_111 kIm1 ?_
        refine r_icne (t := 134) c315_112 rfl (fun h12 => ?_) (fun h12 => ?_)
        · rw [if_neg h12] at h
          refine il6 c315_134 ?_
          refine is6 c315_136 rfl ?_
          refine ii7 c315_138 kI1 rfl ?_
          refine r_go (t := 70) c315_141 rfl ?_
          exact ih h
        · rw [if_pos h12] at h
          refine r_bi c315_115 kB100 ?_
          refine il7 c315_117 ?_
          refine il1 c315_119 ?_
          refine r_ic c315_120 kI1 ?_
          refine r_iadd c315_121 ?_
          obtain ⟨gd13, h⟩ := pm_gd_sp h
          refine r_idiv c315_122 (by simpa using gd13) ?_
          refine r_imul c315_123 ?_
          refine il7 c315_124 ?_
          refine il1 c315_126 ?_
          refine r_ic c315_127 kI1 ?_
          refine r_iadd c315_128 ?_
          obtain ⟨gd14, h⟩ := pm_gd_sp h
          refine r_irem c315_129 (by simpa using gd14) ?_
          refine r_iadd c315_130 ?_
          refine r_go (t := 136) c315_131 rfl ?_
          refine is6 c315_136 rfl ?_
          refine ii7 c315_138 kI1 rfl ?_
          refine r_go (t := 70) c315_141 rfl ?_
          exact ih h
      · rw [if_neg (pm_bf h11)] at h
        refine r_go (t := 138) c315_103 rfl ?_
        refine ii7 c315_138 kI1 rfl ?_
        refine r_go (t := 70) c315_141 rfl ?_
        exact ih h
theorem d315 {X : (Nat → Int32) × Nat} {d : Nat} {I : Nat → Nat → Int32} {J : Nat → Nat → Int64} {P : Nat → Nat → Value} {e r k r2 k2 : Nat} {x1 : Int32} {x2 : Int32} {x3 : Int32} {x4 : Int32} {q : Int32 × (Nat → Nat → Int32) × (Nat → Nat → Int64)} (hw : pm_W P r k r2 k2)  (h : f315 x1 x2 x3 x4 I J = some q) : pm_Fn X (d + 2) 315 1 [.ref 127, .int x1, .int x2, .int x3, .int x4] (I, J, P, pm_T0, e) (.inl (some (.int q.1))) (q.2.1, q.2.2, P, pm_T0, e) := by
  obtain ⟨hp, hw1, hw2, hw3, hw4, hw5, hw6, hw7, hw8, hw9, hw10, hw11⟩ := id hw
  have hwa := hw5.1
  have hwb := hw6.1
  have hwc := hw7.1
  have hwd := hw8.1
  unfold f315 at h
  refine fn_v rc315 (c := 12) (nf := 59) (by first | rfl | assumption) ml315 rfl rfl rfl rfl ?_
  refine al0 c315_0 ?_
  refine r_ic c315_1 kI0 ?_
  refine w_pi p315_2 (by first | rfl | assumption) rfl ?_
  rw [pm_lt_eq] at h
  generalize pm_w I 127 0 0 = I1 at h ⊢
  refine al0 c315_5 ?_
  refine il1 c315_6 ?_
  refine r_ic c315_7 kI0 ?_
  refine r_bi c315_8 kB20 ?_
  refine cv3 q315_10 (d241 hw rfl) rfl ?_
  refine r_ifeq (t := 50) c315_13 rfl (fun h2 => ?_) (fun h2 => ?_)
  · rw [if_neg (pm_bf h2)] at h
    refine r_ic c315_50 kI0 ?_
    refine r_ic c315_51 kI1 ?_
    refine r_ic c315_52 kI1 ?_
    obtain ⟨⟨ov3, I4, J5⟩, e6, h⟩ := pm_bd_sp h
    dsimp only at h
    refine cv4 q315_53 (v := .int (pm_bi ov3)) (μ1 := (I4, J5, P, pm_T0, e)) (d222 hw e6) rfl ?_
    refine r_ifne (t := 61) c315_56 rfl (fun h7 => ?_) (fun h7 => ?_)
    · rw [if_pos (pm_bt h7)] at h
      refine r_ic c315_61 kI0 ?_
      refine is5 c315_62 rfl ?_
      refine r_ic c315_64 kIm1 ?_
      refine is6 c315_65 rfl ?_
      refine r_ic c315_67 kI0 ?_
      refine is7 c315_68 rfl ?_
      exact d315_70 hw pm_FU h
    · rw [if_neg (pm_bf h7)] at h
      refine r_ic c315_59 kI0 ?_
      cases h
      exact r_ri c315_60 rt315 rfl rfl
  · rw [if_pos (pm_bt h2)] at h
    refine il2 c315_16 ?_
    refine r_ic c315_17 kI0 ?_
    refine r_bi c315_18 kB99 ?_
    refine cv3 q315_20 (d241 hw rfl) rfl ?_
    refine r_ifeq (t := 50) c315_23 rfl (fun h8 => ?_) (fun h8 => ?_)
    · rw [if_neg (pm_bf h8)] at h
      refine r_ic c315_50 kI0 ?_
      refine r_ic c315_51 kI1 ?_
      refine r_ic c315_52 kI1 ?_
      obtain ⟨⟨ov9, I10, J11⟩, e12, h⟩ := pm_bd_sp h
      dsimp only at h
      refine cv4 q315_53 (v := .int (pm_bi ov9)) (μ1 := (I10, J11, P, pm_T0, e)) (d222 hw e12) rfl ?_
      refine r_ifne (t := 61) c315_56 rfl (fun h13 => ?_) (fun h13 => ?_)
      · rw [if_pos (pm_bt h13)] at h
        refine r_ic c315_61 kI0 ?_
        refine is5 c315_62 rfl ?_
        refine r_ic c315_64 kIm1 ?_
        refine is6 c315_65 rfl ?_
        refine r_ic c315_67 kI0 ?_
        refine is7 c315_68 rfl ?_
        exact d315_70 hw pm_FU h
      · rw [if_neg (pm_bf h13)] at h
        refine r_ic c315_59 kI0 ?_
        cases h
        exact r_ri c315_60 rt315 rfl rfl
    · rw [if_pos (pm_bt h8)] at h
      refine il3 c315_26 ?_
      refine r_ic c315_27 kI0 ?_
      refine r_bi c315_28 kB99 ?_
      refine cv3 q315_30 (d241 hw rfl) rfl ?_
      refine r_ifeq (t := 50) c315_33 rfl (fun h14 => ?_) (fun h14 => ?_)
      · rw [if_neg (pm_bf h14)] at h
        refine r_ic c315_50 kI0 ?_
        refine r_ic c315_51 kI1 ?_
        refine r_ic c315_52 kI1 ?_
        obtain ⟨⟨ov15, I16, J17⟩, e18, h⟩ := pm_bd_sp h
        dsimp only at h
        refine cv4 q315_53 (v := .int (pm_bi ov15)) (μ1 := (I16, J17, P, pm_T0, e)) (d222 hw e18) rfl ?_
        refine r_ifne (t := 61) c315_56 rfl (fun h19 => ?_) (fun h19 => ?_)
        · rw [if_pos (pm_bt h19)] at h
          refine r_ic c315_61 kI0 ?_
          refine is5 c315_62 rfl ?_
          refine r_ic c315_64 kIm1 ?_
          refine is6 c315_65 rfl ?_
          refine r_ic c315_67 kI0 ?_
          refine is7 c315_68 rfl ?_
          exact d315_70 hw pm_FU h
        · rw [if_neg (pm_bf h19)] at h
          refine r_ic c315_59 kI0 ?_
          cases h
          exact r_ri c315_60 rt315 rfl rfl
      · rw [if_pos (pm_bt h14)] at h
        refine il4 c315_36 ?_
        refine r_ic c315_38 kI0 ?_
        refine r_ic c315_39 kI2 ?_
        refine cv3 q315_40 (d241 hw rfl) rfl ?_
        refine r_ifeq (t := 50) c315_43 rfl (fun h20 => ?_) (fun h20 => ?_)
        · rw [if_neg (pm_bf h20)] at h
          refine r_ic c315_50 kI0 ?_
          refine r_ic c315_51 kI1 ?_
          refine r_ic c315_52 kI1 ?_
          obtain ⟨⟨ov21, I22, J23⟩, e24, h⟩ := pm_bd_sp h
          dsimp only at h
          refine cv4 q315_53 (v := .int (pm_bi ov21)) (μ1 := (I22, J23, P, pm_T0, e)) (d222 hw e24) rfl ?_
          refine r_ifne (t := 61) c315_56 rfl (fun h25 => ?_) (fun h25 => ?_)
          · rw [if_pos (pm_bt h25)] at h
            refine r_ic c315_61 kI0 ?_
            refine is5 c315_62 rfl ?_
            refine r_ic c315_64 kIm1 ?_
            refine is6 c315_65 rfl ?_
            refine r_ic c315_67 kI0 ?_
            refine is7 c315_68 rfl ?_
            exact d315_70 hw pm_FU h
          · rw [if_neg (pm_bf h25)] at h
            refine r_ic c315_59 kI0 ?_
            cases h
            exact r_ri c315_60 rt315 rfl rfl
        · rw [if_pos (pm_bt h20)] at h
          refine r_ic c315_46 kI1 ?_
          refine r_go (t := 51) c315_47 rfl ?_
          refine r_ic c315_51 kI1 ?_
          refine r_ic c315_52 kI1 ?_
          obtain ⟨⟨ov26, I27, J28⟩, e29, h⟩ := pm_bd_sp h
          dsimp only at h
          refine cv4 q315_53 (v := .int (pm_bi ov26)) (μ1 := (I27, J28, P, pm_T0, e)) (d222 hw e29) rfl ?_
          refine r_ifne (t := 61) c315_56 rfl (fun h30 => ?_) (fun h30 => ?_)
          · rw [if_pos (pm_bt h30)] at h
            refine r_ic c315_61 kI0 ?_
            refine is5 c315_62 rfl ?_
            refine r_ic c315_64 kIm1 ?_
            refine is6 c315_65 rfl ?_
            refine r_ic c315_67 kI0 ?_
            refine is7 c315_68 rfl ?_
            exact d315_70 hw pm_FU h
          · rw [if_neg (pm_bf h30)] at h
            refine r_ic c315_59 kI0 ?_
            cases h
            exact r_ri c315_60 rt315 rfl rfl
def f318 (x1 : Int32) (x2 : Int32) (x3 : Int32) (I : Nat → Nat → Int32) (J : Nat → Nat → Int64) : Option (Int32 × (Nat → Nat → Int32) × (Nat → Nat → Int64)) := pm_lt (pm_w I 127 0 0) (fun I1 => (if (v241 x1 0 99 I1) = true then (if (v241 x2 0 99 I1) = true then (if (v241 x3 0 99 I1) = true then (f222 1 1 1 I1 J).bind (fun (ov20, I21, J22) => (if ov20 = true then some (v317 x1 x2 x3 I21, I21, J22) else some (0, I21, J22))) else (f222 0 1 1 I1 J).bind (fun (ov15, I16, J17) => (if ov15 = true then some (v317 x1 x2 x3 I16, I16, J17) else some (0, I16, J17)))) else (f222 0 1 1 I1 J).bind (fun (ov9, I10, J11) => (if ov9 = true then some (v317 x1 x2 x3 I10, I10, J11) else some (0, I10, J11)))) else (f222 0 1 1 I1 J).bind (fun (ov3, I4, J5) => (if ov3 = true then some (v317 x1 x2 x3 I4, I4, J5) else some (0, I4, J5)))))
theorem d318 {X : (Nat → Int32) × Nat} {d : Nat} {I : Nat → Nat → Int32} {J : Nat → Nat → Int64} {P : Nat → Nat → Value} {e r k r2 k2 : Nat} {x1 : Int32} {x2 : Int32} {x3 : Int32} {q : Int32 × (Nat → Nat → Int32) × (Nat → Nat → Int64)} (hw : pm_W P r k r2 k2)  (h : f318 x1 x2 x3 I J = some q) : pm_Fn X (d + 1) 318 1 [.ref 127, .int x1, .int x2, .int x3] (I, J, P, pm_T0, e) (.inl (some (.int q.1))) (q.2.1, q.2.2, P, pm_T0, e) := by
  obtain ⟨hp, hw1, hw2, hw3, hw4, hw5, hw6, hw7, hw8, hw9, hw10, hw11⟩ := id hw
  have hwa := hw5.1
  have hwb := hw6.1
  have hwc := hw7.1
  have hwd := hw8.1
  unfold f318 at h
  refine fn_v rc318 (c := 12) (nf := 59) (by first | rfl | assumption) ml318 rfl rfl rfl rfl ?_
  refine al0 c318_0 ?_
  refine r_ic c318_1 kI0 ?_
  refine w_pi p318_2 (by first | rfl | assumption) rfl ?_
  rw [pm_lt_eq] at h
  generalize pm_w I 127 0 0 = I1 at h ⊢
  refine al0 c318_5 ?_
  refine il1 c318_6 ?_
  refine r_ic c318_7 kI0 ?_
  refine r_bi c318_8 kB99 ?_
  refine cv3 q318_10 (d241 hw rfl) rfl ?_
  refine r_ifeq (t := 40) c318_13 rfl (fun h2 => ?_) (fun h2 => ?_)
  · rw [if_neg (pm_bf h2)] at h
    refine r_ic c318_40 kI0 ?_
    refine r_ic c318_41 kI1 ?_
    refine r_ic c318_42 kI1 ?_
    obtain ⟨⟨ov3, I4, J5⟩, e6, h⟩ := pm_bd_sp h
    dsimp only at h
    refine cv4 q318_43 (v := .int (pm_bi ov3)) (μ1 := (I4, J5, P, pm_T0, e)) (d222 hw e6) rfl ?_
    refine r_ifne (t := 51) c318_46 rfl (fun h7 => ?_) (fun h7 => ?_)
    · rw [if_pos (pm_bt h7)] at h
      refine il1 c318_51 ?_
      refine il2 c318_52 ?_
      refine il3 c318_53 ?_
      refine cv3 q318_54 (d317 hw rfl) rfl ?_
      cases h
      exact r_ri c318_57 rt318 rfl rfl
    · rw [if_neg (pm_bf h7)] at h
      refine r_ic c318_49 kI0 ?_
      cases h
      exact r_ri c318_50 rt318 rfl rfl
  · rw [if_pos (pm_bt h2)] at h
    refine il2 c318_16 ?_
    refine r_ic c318_17 kI0 ?_
    refine r_bi c318_18 kB99 ?_
    refine cv3 q318_20 (d241 hw rfl) rfl ?_
    refine r_ifeq (t := 40) c318_23 rfl (fun h8 => ?_) (fun h8 => ?_)
    · rw [if_neg (pm_bf h8)] at h
      refine r_ic c318_40 kI0 ?_
      refine r_ic c318_41 kI1 ?_
      refine r_ic c318_42 kI1 ?_
      obtain ⟨⟨ov9, I10, J11⟩, e12, h⟩ := pm_bd_sp h
      dsimp only at h
      refine cv4 q318_43 (v := .int (pm_bi ov9)) (μ1 := (I10, J11, P, pm_T0, e)) (d222 hw e12) rfl ?_
      refine r_ifne (t := 51) c318_46 rfl (fun h13 => ?_) (fun h13 => ?_)
      · rw [if_pos (pm_bt h13)] at h
        refine il1 c318_51 ?_
        refine il2 c318_52 ?_
        refine il3 c318_53 ?_
        refine cv3 q318_54 (d317 hw rfl) rfl ?_
        cases h
        exact r_ri c318_57 rt318 rfl rfl
      · rw [if_neg (pm_bf h13)] at h
        refine r_ic c318_49 kI0 ?_
        cases h
        exact r_ri c318_50 rt318 rfl rfl
    · rw [if_pos (pm_bt h8)] at h
      refine il3 c318_26 ?_
      refine r_ic c318_27 kI0 ?_
      refine r_bi c318_28 kB99 ?_
      refine cv3 q318_30 (d241 hw rfl) rfl ?_
      refine r_ifeq (t := 40) c318_33 rfl (fun h14 => ?_) (fun h14 => ?_)
      · rw [if_neg (pm_bf h14)] at h
        refine r_ic c318_40 kI0 ?_
        refine r_ic c318_41 kI1 ?_
        refine r_ic c318_42 kI1 ?_
        obtain ⟨⟨ov15, I16, J17⟩, e18, h⟩ := pm_bd_sp h
        dsimp only at h
        refine cv4 q318_43 (v := .int (pm_bi ov15)) (μ1 := (I16, J17, P, pm_T0, e)) (d222 hw e18) rfl ?_
        refine r_ifne (t := 51) c318_46 rfl (fun h19 => ?_) (fun h19 => ?_)
        · rw [if_pos (pm_bt h19)] at h
          refine il1 c318_51 ?_
          refine il2 c318_52 ?_
          refine il3 c318_53 ?_
          refine cv3 q318_54 (d317 hw rfl) rfl ?_
          cases h
          exact r_ri c318_57 rt318 rfl rfl
        · rw [if_neg (pm_bf h19)] at h
          refine r_ic c318_49 kI0 ?_
          cases h
          exact r_ri c318_50 rt318 rfl rfl
      · rw [if_pos (pm_bt h14)] at h
        refine r_ic c318_36 kI1 ?_
        refine r_go (t := 41) c318_37 rfl ?_
        refine r_ic c318_41 kI1 ?_
        refine r_ic c318_42 kI1 ?_
        obtain ⟨⟨ov20, I21, J22⟩, e23, h⟩ := pm_bd_sp h
        dsimp only at h
        refine cv4 q318_43 (v := .int (pm_bi ov20)) (μ1 := (I21, J22, P, pm_T0, e)) (d222 hw e23) rfl ?_
        refine r_ifne (t := 51) c318_46 rfl (fun h24 => ?_) (fun h24 => ?_)
        · rw [if_pos (pm_bt h24)] at h
          refine il1 c318_51 ?_
          refine il2 c318_52 ?_
          refine il3 c318_53 ?_
          refine cv3 q318_54 (d317 hw rfl) rfl ?_
          cases h
          exact r_ri c318_57 rt318 rfl rfl
        · rw [if_neg (pm_bf h24)] at h
          refine r_ic c318_49 kI0 ?_
          cases h
          exact r_ri c318_50 rt318 rfl rfl
def v320 (x0 : Int32) (x1 : Int32) (x2 : Int32) (I : Nat → Nat → Int32) : Bool := (if x0.toInt < 0 then false else (if (16 : Int32).toInt < x0.toInt then false else (if x1.toInt < 0 then false else (if (40 : Int32).toInt < x1.toInt then false else (if x2.toInt < (1 : Int32).toInt then false else (if (99 : Int32).toInt < x2.toInt then false else true))))))
theorem d320 {X : (Nat → Int32) × Nat} {d : Nat} {I : Nat → Nat → Int32} {J : Nat → Nat → Int64} {P : Nat → Nat → Value} {e r k r2 k2 : Nat} {x0 : Int32} {x1 : Int32} {x2 : Int32} {q : Bool} (hw : pm_W P r k r2 k2)  (h : v320 x0 x1 x2 I = q) : pm_Fn X (d) 320 0 [.int x0, .int x1, .int x2] (I, J, P, pm_T0, e) (.inl (some (.int (pm_bi q)))) (I, J, P, pm_T0, e) := by
  obtain ⟨hp, hw1, hw2, hw3, hw4, hw5, hw6, hw7, hw8, hw9, hw10, hw11⟩ := id hw
  have hwa := hw5.1
  have hwb := hw6.1
  have hwc := hw7.1
  have hwd := hw8.1
  unfold v320 at h
  refine fn_s ml320 rfl rfl rfl ?_
  refine il0 c320_0 ?_
  refine r_iflt (t := 35) c320_1 rfl (fun h1 => ?_) (fun h1 => ?_)
  · rw [if_pos h1] at h
    refine r_ic c320_35 kI0 ?_
    cases h
    exact r_rz c320_36 rt320 (by decide) rfl rfl
  · rw [if_neg (Int.not_lt.mpr h1)] at h
    refine il0 c320_4 ?_
    refine r_bi c320_5 kB16 ?_
    refine r_icgt (t := 35) c320_7 rfl (fun h2 => ?_) (fun h2 => ?_)
    · rw [if_pos h2] at h
      refine r_ic c320_35 kI0 ?_
      cases h
      exact r_rz c320_36 rt320 (by decide) rfl rfl
    · rw [if_neg (Int.not_lt.mpr h2)] at h
      refine il1 c320_10 ?_
      refine r_iflt (t := 35) c320_11 rfl (fun h3 => ?_) (fun h3 => ?_)
      · rw [if_pos h3] at h
        refine r_ic c320_35 kI0 ?_
        cases h
        exact r_rz c320_36 rt320 (by decide) rfl rfl
      · rw [if_neg (Int.not_lt.mpr h3)] at h
        refine il1 c320_14 ?_
        refine r_bi c320_15 kB40 ?_
        refine r_icgt (t := 35) c320_17 rfl (fun h4 => ?_) (fun h4 => ?_)
        · rw [if_pos h4] at h
          refine r_ic c320_35 kI0 ?_
          cases h
          exact r_rz c320_36 rt320 (by decide) rfl rfl
        · rw [if_neg (Int.not_lt.mpr h4)] at h
          refine il2 c320_20 ?_
          refine r_ic c320_21 kI1 ?_
          refine r_iclt (t := 35) c320_22 rfl (fun h5 => ?_) (fun h5 => ?_)
          · rw [if_pos h5] at h
            refine r_ic c320_35 kI0 ?_
            cases h
            exact r_rz c320_36 rt320 (by decide) rfl rfl
          · rw [if_neg (Int.not_lt.mpr h5)] at h
            refine il2 c320_25 ?_
            refine r_bi c320_26 kB99 ?_
            refine r_icgt (t := 35) c320_28 rfl (fun h6 => ?_) (fun h6 => ?_)
            · rw [if_pos h6] at h
              refine r_ic c320_35 kI0 ?_
              cases h
              exact r_rz c320_36 rt320 (by decide) rfl rfl
            · rw [if_neg (Int.not_lt.mpr h6)] at h
              refine r_ic c320_31 kI1 ?_
              refine r_go (t := 36) c320_32 rfl ?_
              cases h
              exact r_rz c320_36 rt320 (by decide) rfl rfl
def f322  (I : Nat → Nat → Int32) (J : Nat → Nat → Int64) : Option (Int32 × (Nat → Nat → Int32) × (Nat → Nat → Int64)) := pm_lt (pm_w I 127 55 (((I 127 55) * 1103515245) + 12345)) (fun I1 => some ((((I1 127 55) >>> ((16 : Int32) &&& 31)) &&& 32767) - (((I1 127 55) >>> ((16 : Int32) &&& 31)) &&& 32767) / 16 * 16, I1, J))
theorem d322 {X : (Nat → Int32) × Nat} {d : Nat} {I : Nat → Nat → Int32} {J : Nat → Nat → Int64} {P : Nat → Nat → Value} {e r k r2 k2 : Nat}  {q : Int32 × (Nat → Nat → Int32) × (Nat → Nat → Int64)} (hw : pm_W P r k r2 k2)  (h : f322  I J = some q) : pm_Fn X (d) 322 1 [.ref 127] (I, J, P, pm_T0, e) (.inl (some (.int q.1))) (q.2.1, q.2.2, P, pm_T0, e) := by
  obtain ⟨hp, hw1, hw2, hw3, hw4, hw5, hw6, hw7, hw8, hw9, hw10, hw11⟩ := id hw
  have hwa := hw5.1
  have hwb := hw6.1
  have hwc := hw7.1
  have hwd := hw8.1
  unfold f322 at h
  refine fn_v rc322 (c := 12) (nf := 59) (by first | rfl | assumption) ml322 rfl rfl rfl rfl ?_
  refine al0 c322_0 ?_
  refine al0 c322_1 ?_
  refine r_gi g322_2 (by first | rfl | assumption) rfl ?_
  refine r_ki v322_5 ?_
  refine r_imul c322_8 ?_
  refine r_si c322_9 kS12345 ?_
  refine r_iadd c322_12 ?_
  refine w_pi p322_13 (by first | rfl | assumption) rfl ?_
  rw [pm_lt_eq] at h
  generalize pm_w I 127 55 (((I 127 55) * 1103515245) + 12345) = I1 at h ⊢
  refine al0 c322_16 ?_
  refine r_gi g322_17 (by first | rfl | assumption) rfl ?_
  refine r_bi c322_20 kB16 ?_
  refine r_ishr c322_22 ?_
  refine r_si c322_23 kS32767 ?_
  refine r_iand c322_26 ?_
  refine r_bi c322_27 kB16 ?_
  refine r_irem c322_29 (by decide) ?_
  cases h
  exact r_ri c322_30 rt322 rfl rfl
def f321_17  : Nat → Int32 → Int32 → Int32 → Int32 → (Nat → Nat → Int32) → (Nat → Nat → Int64) → Option (Unit × (Nat → Nat → Int32) × (Nat → Nat → Int64))
  | 0, _, _, _, _, _, _ => none
  | fu + 1, y2, y3, y4, y5, I, J => (if y5.toInt < y4.toInt then (f322  I J).bind (fun (ov2, I3, J4) => (if ov2.toInt < y2.toInt then pm_lt (pm_w I3 127 56 ((I3 127 56) + 1)) (fun I11 => pm_gd (pm_in 65 66) ((if y3.toInt < (I11 144 (65 : Int32).toNatClampNeg).toInt then pm_gd (pm_in 65 66) (pm_gd (pm_in 65 66) (pm_lt (pm_w I11 144 (65 : Int32).toNatClampNeg ((I11 144 (65 : Int32).toNatClampNeg) - y3)) (fun I22 => (f272  I22 J4).bind (fun (ov23, I24, J25) => f321_17 fu y2 y3 y4 (y5 + 1) I24 J25)))) else pm_gd (pm_in 65 66) (pm_lt (pm_w I11 144 (65 : Int32).toNatClampNeg 0) (fun I15 => (f272  I15 J4).bind (fun (ov16, I17, J18) => f321_17 fu y2 y3 y4 (y5 + 1) I17 J18)))))) else (f272  I3 J4).bind (fun (ov7, I8, J9) => f321_17 fu y2 y3 y4 (y5 + 1) I8 J9))) else some ((), I, J))
def f321 (x1 : Int32) (x2 : Int32) (x3 : Int32) (x4 : Int32) (I : Nat → Nat → Int32) (J : Nat → Nat → Int64) : Option (Unit × (Nat → Nat → Int32) × (Nat → Nat → Int64)) := (f253  I J).bind (fun (ov1, I2, J3) => pm_lt (pm_w I2 127 55 x1) (fun I5 => pm_lt (pm_w I5 127 56 0) (fun I6 => f321_17 pm_FU x2 x3 x4 0 I6 J3)))
theorem d321_17 {X : (Nat → Int32) × Nat} {d : Nat} {P : Nat → Nat → Value} {e r k r2 k2 : Nat}  (hw : pm_W P r k r2 k2)  : ∀ (fu : Nat) {y2 y3 y4 y5 : Int32} {I : Nat → Nat → Int32} {J : Nat → Nat → Int64} {q : Unit × (Nat → Nat → Int32) × (Nat → Nat → Int64)} {z1 : Value} (h : f321_17 fu y2 y3 y4 y5 I J = some q), pm_Fx X (d + 7) 321 17 [.ref 127, z1, .int y2, .int y3, .int y4, .int y5] [] (I, J, P, pm_T0, e) (.inl none) (q.2.1, q.2.2, P, pm_T0, e) := by
  obtain ⟨hp, hw1, hw2, hw3, hw4, hw5, hw6, hw7, hw8, hw9, hw10, hw11⟩ := id hw
  have hwa := hw5.1
  have hwb := hw6.1
  have hwc := hw7.1
  have hwd := hw8.1
  intro fu
  induction fu with
  | zero => intro y2 y3 y4 y5 I J q z1 h; cases h
  | succ fu ih =>
    intro y2 y3 y4 y5 I J q z1 h
    rw [f321_17] at h
    refine il5 c321_17 ?_
    refine il4 c321_19 ?_
    refine r_icge (t := 83) c321_21 rfl (fun h1 => ?_) (fun h1 => ?_)
    · rw [if_neg (Int.not_lt.mpr h1)] at h
      cases h
      exact r_rv c321_83 rt321 rfl
    · rw [if_pos h1] at h
      refine al0 c321_24 ?_
      obtain ⟨⟨ov2, I3, J4⟩, e5, h⟩ := pm_bd_sp h
      dsimp only at h
      refine cv1 q321_25 (v := .int ov2) (μ1 := (I3, J4, P, pm_T0, e)) (d322 hw e5) rfl ?_
      refine il2 c321_28 ?_
      refine r_icge (t := 73) c321_29 rfl (fun h6 => ?_) (fun h6 => ?_)
      · rw [if_neg (Int.not_lt.mpr h6)] at h
        refine al0 c321_73 ?_
        obtain ⟨⟨ov7, I8, J9⟩, e10, h⟩ := pm_bd_sp h
        dsimp only at h
        refine cz1 q321_74 (μ1 := (I8, J9, P, pm_T0, e)) (d272 hw e10) rfl ?_
        refine ii5 c321_77 kI1 rfl ?_
        refine r_go (t := 17) c321_80 rfl ?_
        exact ih h
      · rw [if_pos h6] at h
        refine al0 c321_32 ?_
        refine r_dpr c321_33 ?_
        refine r_gi g321_34 (by first | rfl | assumption) rfl ?_
        refine r_ic c321_37 kI1 ?_
        refine r_iadd c321_38 ?_
        refine w_pi p321_39 (by first | rfl | assumption) rfl ?_
        rw [pm_lt_eq] at h
        generalize pm_w I3 127 56 ((I3 127 56) + 1) = I11 at h ⊢
        refine al0 c321_42 ?_
        refine r_gr g321_43 rfl rfl (hp _ _ _ rfl) ?_
        refine r_bi c321_46 kB65 ?_
        refine al0 c321_48 ?_
        refine r_gr g321_49 rfl rfl (hp _ _ _ rfl) ?_
        refine r_bi c321_52 kB65 ?_
        obtain ⟨gd12, h⟩ := pm_gd_sp h
        refine w_ia c321_54 (by first | rfl | assumption) gd12 ?_
        refine il3 c321_55 ?_
        refine r_icle (t := 71) c321_56 rfl (fun h13 => ?_) (fun h13 => ?_)
        · rw [if_neg (Int.not_lt.mpr h13)] at h
          refine r_ic c321_71 kI0 ?_
          obtain ⟨gd14, h⟩ := pm_gd_sp h
          refine w_ist c321_72 (by first | rfl | assumption) gd14 ?_
          rw [pm_lt_eq] at h
          generalize pm_w I11 144 (65 : Int32).toNatClampNeg 0 = I15 at h ⊢
          refine al0 c321_73 ?_
          obtain ⟨⟨ov16, I17, J18⟩, e19, h⟩ := pm_bd_sp h
          dsimp only at h
          refine cz1 q321_74 (μ1 := (I17, J18, P, pm_T0, e)) (d272 hw e19) rfl ?_
          refine ii5 c321_77 kI1 rfl ?_
          refine r_go (t := 17) c321_80 rfl ?_
          exact ih h
        · rw [if_pos h13] at h
          refine al0 c321_59 ?_
          refine r_gr g321_60 rfl rfl (hp _ _ _ rfl) ?_
          refine r_bi c321_63 kB65 ?_
          obtain ⟨gd20, h⟩ := pm_gd_sp h
          refine w_ia c321_65 (by first | rfl | assumption) gd20 ?_
          refine il3 c321_66 ?_
          refine r_isub c321_67 ?_
          refine r_go (t := 72) c321_68 rfl ?_
          obtain ⟨gd21, h⟩ := pm_gd_sp h
          refine w_ist c321_72 (by first | rfl | assumption) gd21 ?_
          rw [pm_lt_eq] at h
          generalize pm_w I11 144 (65 : Int32).toNatClampNeg ((I11 144 (65 : Int32).toNatClampNeg) - y3) = I22 at h ⊢
          refine al0 c321_73 ?_
          obtain ⟨⟨ov23, I24, J25⟩, e26, h⟩ := pm_bd_sp h
          dsimp only at h
          refine cz1 q321_74 (μ1 := (I24, J25, P, pm_T0, e)) (d272 hw e26) rfl ?_
          refine ii5 c321_77 kI1 rfl ?_
          refine r_go (t := 17) c321_80 rfl ?_
          exact ih h
theorem d321 {X : (Nat → Int32) × Nat} {d : Nat} {I : Nat → Nat → Int32} {J : Nat → Nat → Int64} {P : Nat → Nat → Value} {e r k r2 k2 : Nat} {x1 : Int32} {x2 : Int32} {x3 : Int32} {x4 : Int32} {q : Unit × (Nat → Nat → Int32) × (Nat → Nat → Int64)} (hw : pm_W P r k r2 k2)  (h : f321 x1 x2 x3 x4 I J = some q) : pm_Fn X (d + 7) 321 1 [.ref 127, .int x1, .int x2, .int x3, .int x4] (I, J, P, pm_T0, e) (.inl none) (q.2.1, q.2.2, P, pm_T0, e) := by
  obtain ⟨hp, hw1, hw2, hw3, hw4, hw5, hw6, hw7, hw8, hw9, hw10, hw11⟩ := id hw
  have hwa := hw5.1
  have hwb := hw6.1
  have hwc := hw7.1
  have hwd := hw8.1
  unfold f321 at h
  refine fn_v rc321 (c := 12) (nf := 59) (by first | rfl | assumption) ml321 rfl rfl rfl rfl ?_
  refine al0 c321_0 ?_
  obtain ⟨⟨ov1, I2, J3⟩, e4, h⟩ := pm_bd_sp h
  dsimp only at h
  refine cz1 q321_1 (μ1 := (I2, J3, P, pm_T0, e)) (d253 hw e4) rfl ?_
  refine al0 c321_4 ?_
  refine il1 c321_5 ?_
  refine w_pi p321_6 (by first | rfl | assumption) rfl ?_
  rw [pm_lt_eq] at h
  generalize pm_w I2 127 55 x1 = I5 at h ⊢
  refine al0 c321_9 ?_
  refine r_ic c321_10 kI0 ?_
  refine w_pi p321_11 (by first | rfl | assumption) rfl ?_
  rw [pm_lt_eq] at h
  generalize pm_w I5 127 56 0 = I6 at h ⊢
  refine r_ic c321_14 kI0 ?_
  refine is5 c321_15 rfl ?_
  exact d321_17 hw pm_FU h
