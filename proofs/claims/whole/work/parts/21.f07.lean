/-! THE METHODS AS FUNCTIONS OF THE MEMORY (written by dec.py) -/
def v241 (x0 : Int32) (x1 : Int32) (x2 : Int32) (I : Nat → Nat → Int32) : Bool := (if x0.toInt < x1.toInt then false else (if x2.toInt < x0.toInt then false else true))
theorem d241 {X : (Nat → Int32) × Nat} {d : Nat} {I : Nat → Nat → Int32} {J : Nat → Nat → Int64} {P : Nat → Nat → Value} {e r k r2 k2 : Nat} {x0 : Int32} {x1 : Int32} {x2 : Int32} {q : Bool} (hw : pm_W P r k r2 k2)  (h : v241 x0 x1 x2 I = q) : pm_Fn X (d) 241 0 [.int x0, .int x1, .int x2] (I, J, P, pm_T0, e) (.inl (some (.int (pm_bi q)))) (I, J, P, pm_T0, e) := by
  obtain ⟨hp, hw1, hw2, hw3, hw4, hw5, hw6, hw7, hw8, hw9, hw10, hw11⟩ := id hw
  have hwa := hw5.1
  have hwb := hw6.1
  have hwc := hw7.1
  have hwd := hw8.1
  unfold v241 at h
  refine fn_s ml241 rfl rfl rfl ?_
  refine il0 c241_0 ?_
  refine il1 c241_1 ?_
  refine r_iclt (t := 14) c241_2 rfl (fun h1 => ?_) (fun h1 => ?_)
  · rw [if_pos h1] at h
    refine r_ic c241_14 kI0 ?_
    cases h
    exact r_rz c241_15 rt241 (by decide) rfl rfl
  · rw [if_neg (Int.not_lt.mpr h1)] at h
    refine il0 c241_5 ?_
    refine il2 c241_6 ?_
    refine r_icgt (t := 14) c241_7 rfl (fun h2 => ?_) (fun h2 => ?_)
    · rw [if_pos h2] at h
      refine r_ic c241_14 kI0 ?_
      cases h
      exact r_rz c241_15 rt241 (by decide) rfl rfl
    · rw [if_neg (Int.not_lt.mpr h2)] at h
      refine r_ic c241_10 kI1 ?_
      refine r_go (t := 15) c241_11 rfl ?_
      cases h
      exact r_rz c241_15 rt241 (by decide) rfl rfl
def f246 (x1 : Int32) (x2 : Int32) (I : Nat → Nat → Int32) (J : Nat → Nat → Int64) : Option (Unit × (Nat → Nat → Int32) × (Nat → Nat → Int64)) := (if (v224  I) = true then pm_gd (pm_in (I 127 27) 150) (pm_lt (pm_w I 134 (I 127 27).toNatClampNeg x1) (fun I3 => pm_gd (pm_in (I3 127 27) 150) (pm_lt (pm_w I3 135 (I3 127 27).toNatClampNeg x2) (fun I5 => pm_lt (pm_w I5 127 27 ((I5 127 27) + 1)) (fun I6 => some ((), I6, J)))))) else some ((), I, J))
theorem d246 {X : (Nat → Int32) × Nat} {d : Nat} {I : Nat → Nat → Int32} {J : Nat → Nat → Int64} {P : Nat → Nat → Value} {e r k r2 k2 : Nat} {x1 : Int32} {x2 : Int32} {q : Unit × (Nat → Nat → Int32) × (Nat → Nat → Int64)} (hw : pm_W P r k r2 k2)  (h : f246 x1 x2 I J = some q) : pm_Fn X (d + 1) 246 1 [.ref 127, .int x1, .int x2] (I, J, P, pm_T0, e) (.inl none) (q.2.1, q.2.2, P, pm_T0, e) := by
  obtain ⟨hp, hw1, hw2, hw3, hw4, hw5, hw6, hw7, hw8, hw9, hw10, hw11⟩ := id hw
  have hwa := hw5.1
  have hwb := hw6.1
  have hwc := hw7.1
  have hwd := hw8.1
  unfold f246 at h
  refine fn_v rc246 (c := 12) (nf := 59) (by first | rfl | assumption) ml246 rfl rfl rfl rfl ?_
  refine al0 c246_0 ?_
  refine cv1 q246_1 (d224 hw rfl) rfl ?_
  refine r_ifne (t := 8) c246_4 rfl (fun h1 => ?_) (fun h1 => ?_)
  · rw [if_pos (pm_bt h1)] at h
    refine al0 c246_8 ?_
    refine r_gr g246_9 rfl rfl (hp _ _ _ rfl) ?_
    refine al0 c246_12 ?_
    refine r_gi g246_13 (by first | rfl | assumption) rfl ?_
    refine il1 c246_16 ?_
    obtain ⟨gd2, h⟩ := pm_gd_sp h
    refine w_ist c246_17 (by first | rfl | assumption) gd2 ?_
    rw [pm_lt_eq] at h
    generalize pm_w I 134 (I 127 27).toNatClampNeg x1 = I3 at h ⊢
    refine al0 c246_18 ?_
    refine r_gr g246_19 rfl rfl (hp _ _ _ rfl) ?_
    refine al0 c246_22 ?_
    refine r_gi g246_23 (by first | rfl | assumption) rfl ?_
    refine il2 c246_26 ?_
    obtain ⟨gd4, h⟩ := pm_gd_sp h
    refine w_ist c246_27 (by first | rfl | assumption) gd4 ?_
    rw [pm_lt_eq] at h
    generalize pm_w I3 135 (I3 127 27).toNatClampNeg x2 = I5 at h ⊢
    refine al0 c246_28 ?_
    refine r_dpr c246_29 ?_
    refine r_gi g246_30 (by first | rfl | assumption) rfl ?_
    refine r_ic c246_33 kI1 ?_
    refine r_iadd c246_34 ?_
    refine w_pi p246_35 (by first | rfl | assumption) rfl ?_
    rw [pm_lt_eq] at h
    generalize pm_w I5 127 27 ((I5 127 27) + 1) = I6 at h ⊢
    cases h
    exact r_rv c246_38 rt246 rfl
  · rw [if_neg (pm_bf h1)] at h
    cases h
    exact r_rv c246_7 rt246 rfl
def f245 (x1 : Int32) (I : Nat → Nat → Int32) (J : Nat → Nat → Int64) : Option (Unit × (Nat → Nat → Int32) × (Nat → Nat → Int64)) := (if (v224  I) = true then (if (I 127 7) = 6 then (f232 3 (I 127 4) I J).bind (fun (ov11, I12, J13) => (if (v224  I12) = true then pm_lt (pm_w I12 127 4 ((I12 127 4) + x1)) (fun I17 => pm_lt (pm_w I17 127 7 ((I17 127 7) + 1)) (fun I18 => some ((), I18, J13))) else pm_lt (pm_w I12 127 7 ((I12 127 7) + 1)) (fun I16 => some ((), I16, J13)))) else (if (v224  I) = true then pm_lt (pm_w I 127 4 ((I 127 4) + x1)) (fun I9 => pm_lt (pm_w I9 127 7 ((I9 127 7) + 1)) (fun I10 => some ((), I10, J))) else pm_lt (pm_w I 127 7 ((I 127 7) + 1)) (fun I8 => some ((), I8, J)))) else (if (v224  I) = true then pm_lt (pm_w I 127 4 ((I 127 4) + x1)) (fun I4 => pm_lt (pm_w I4 127 7 ((I4 127 7) + 1)) (fun I5 => some ((), I5, J))) else pm_lt (pm_w I 127 7 ((I 127 7) + 1)) (fun I3 => some ((), I3, J))))
theorem d245 {X : (Nat → Int32) × Nat} {d : Nat} {I : Nat → Nat → Int32} {J : Nat → Nat → Int64} {P : Nat → Nat → Value} {e r k r2 k2 : Nat} {x1 : Int32} {q : Unit × (Nat → Nat → Int32) × (Nat → Nat → Int64)} (hw : pm_W P r k r2 k2)  (h : f245 x1 I J = some q) : pm_Fn X (d + 1) 245 1 [.ref 127, .int x1] (I, J, P, pm_T0, e) (.inl none) (q.2.1, q.2.2, P, pm_T0, e) := by
  obtain ⟨hp, hw1, hw2, hw3, hw4, hw5, hw6, hw7, hw8, hw9, hw10, hw11⟩ := id hw
  have hwa := hw5.1
  have hwb := hw6.1
  have hwc := hw7.1
  have hwd := hw8.1
  unfold f245 at h
  refine fn_v rc245 (c := 12) (nf := 59) (by first | rfl | assumption) ml245 rfl rfl rfl rfl ?_
  refine al0 c245_0 ?_
  refine cv1 q245_1 (d224 hw rfl) rfl ?_
  refine r_ifeq (t := 25) c245_4 rfl (fun h1 => ?_) (fun h1 => ?_)
  · rw [if_neg (pm_bf h1)] at h
    refine al0 c245_25 ?_
    refine cv1 q245_26 (d224 hw rfl) rfl ?_
    refine r_ifeq (t := 42) c245_29 rfl (fun h2 => ?_) (fun h2 => ?_)
    · rw [if_neg (pm_bf h2)] at h
      refine al0 c245_42 ?_
      refine r_dpr c245_43 ?_
      refine r_gi g245_44 (by first | rfl | assumption) rfl ?_
      refine r_ic c245_47 kI1 ?_
      refine r_iadd c245_48 ?_
      refine w_pi p245_49 (by first | rfl | assumption) rfl ?_
      rw [pm_lt_eq] at h
      generalize pm_w I 127 7 ((I 127 7) + 1) = I3 at h ⊢
      cases h
      exact r_rv c245_52 rt245 rfl
    · rw [if_pos (pm_bt h2)] at h
      refine al0 c245_32 ?_
      refine r_dpr c245_33 ?_
      refine r_gi g245_34 (by first | rfl | assumption) rfl ?_
      refine il1 c245_37 ?_
      refine r_iadd c245_38 ?_
      refine w_pi p245_39 (by first | rfl | assumption) rfl ?_
      rw [pm_lt_eq] at h
      generalize pm_w I 127 4 ((I 127 4) + x1) = I4 at h ⊢
      refine al0 c245_42 ?_
      refine r_dpr c245_43 ?_
      refine r_gi g245_44 (by first | rfl | assumption) rfl ?_
      refine r_ic c245_47 kI1 ?_
      refine r_iadd c245_48 ?_
      refine w_pi p245_49 (by first | rfl | assumption) rfl ?_
      rw [pm_lt_eq] at h
      generalize pm_w I4 127 7 ((I4 127 7) + 1) = I5 at h ⊢
      cases h
      exact r_rv c245_52 rt245 rfl
  · rw [if_pos (pm_bt h1)] at h
    refine al0 c245_7 ?_
    refine r_gi g245_8 (by first | rfl | assumption) rfl ?_
    refine r_bi c245_11 kB6 ?_
    refine r_icne (t := 25) c245_13 rfl (fun h6 => ?_) (fun h6 => ?_)
    · rw [if_neg h6] at h
      refine al0 c245_25 ?_
      refine cv1 q245_26 (d224 hw rfl) rfl ?_
      refine r_ifeq (t := 42) c245_29 rfl (fun h7 => ?_) (fun h7 => ?_)
      · rw [if_neg (pm_bf h7)] at h
        refine al0 c245_42 ?_
        refine r_dpr c245_43 ?_
        refine r_gi g245_44 (by first | rfl | assumption) rfl ?_
        refine r_ic c245_47 kI1 ?_
        refine r_iadd c245_48 ?_
        refine w_pi p245_49 (by first | rfl | assumption) rfl ?_
        rw [pm_lt_eq] at h
        generalize pm_w I 127 7 ((I 127 7) + 1) = I8 at h ⊢
        cases h
        exact r_rv c245_52 rt245 rfl
      · rw [if_pos (pm_bt h7)] at h
        refine al0 c245_32 ?_
        refine r_dpr c245_33 ?_
        refine r_gi g245_34 (by first | rfl | assumption) rfl ?_
        refine il1 c245_37 ?_
        refine r_iadd c245_38 ?_
        refine w_pi p245_39 (by first | rfl | assumption) rfl ?_
        rw [pm_lt_eq] at h
        generalize pm_w I 127 4 ((I 127 4) + x1) = I9 at h ⊢
        refine al0 c245_42 ?_
        refine r_dpr c245_43 ?_
        refine r_gi g245_44 (by first | rfl | assumption) rfl ?_
        refine r_ic c245_47 kI1 ?_
        refine r_iadd c245_48 ?_
        refine w_pi p245_49 (by first | rfl | assumption) rfl ?_
        rw [pm_lt_eq] at h
        generalize pm_w I9 127 7 ((I9 127 7) + 1) = I10 at h ⊢
        cases h
        exact r_rv c245_52 rt245 rfl
    · rw [if_pos h6] at h
      refine al0 c245_16 ?_
      refine r_ic c245_17 kI3 ?_
      refine al0 c245_18 ?_
      refine r_gi g245_19 (by first | rfl | assumption) rfl ?_
      obtain ⟨⟨ov11, I12, J13⟩, e14, h⟩ := pm_bd_sp h
      dsimp only at h
      refine cz3 q245_22 (μ1 := (I12, J13, P, pm_T0, e)) (d232 hw e14) rfl ?_
      refine al0 c245_25 ?_
      refine cv1 q245_26 (d224 hw rfl) rfl ?_
      refine r_ifeq (t := 42) c245_29 rfl (fun h15 => ?_) (fun h15 => ?_)
      · rw [if_neg (pm_bf h15)] at h
        refine al0 c245_42 ?_
        refine r_dpr c245_43 ?_
        refine r_gi g245_44 (by first | rfl | assumption) rfl ?_
        refine r_ic c245_47 kI1 ?_
        refine r_iadd c245_48 ?_
        refine w_pi p245_49 (by first | rfl | assumption) rfl ?_
        rw [pm_lt_eq] at h
        generalize pm_w I12 127 7 ((I12 127 7) + 1) = I16 at h ⊢
        cases h
        exact r_rv c245_52 rt245 rfl
      · rw [if_pos (pm_bt h15)] at h
        refine al0 c245_32 ?_
        refine r_dpr c245_33 ?_
        refine r_gi g245_34 (by first | rfl | assumption) rfl ?_
        refine il1 c245_37 ?_
        refine r_iadd c245_38 ?_
        refine w_pi p245_39 (by first | rfl | assumption) rfl ?_
        rw [pm_lt_eq] at h
        generalize pm_w I12 127 4 ((I12 127 4) + x1) = I17 at h ⊢
        refine al0 c245_42 ?_
        refine r_dpr c245_43 ?_
        refine r_gi g245_44 (by first | rfl | assumption) rfl ?_
        refine r_ic c245_47 kI1 ?_
        refine r_iadd c245_48 ?_
        refine w_pi p245_49 (by first | rfl | assumption) rfl ?_
        rw [pm_lt_eq] at h
        generalize pm_w I17 127 7 ((I17 127 7) + 1) = I18 at h ⊢
        cases h
        exact r_rv c245_52 rt245 rfl
def f248  (I : Nat → Nat → Int32) (J : Nat → Nat → Int64) : Option (Int32 × (Nat → Nat → Int32) × (Nat → Nat → Int64)) := (f229  I J).bind (fun (ov1, I2, J3) => (f231 16 I2 J3).bind (fun (ov5, I6, J7) => (if ov1 = ov5 then some (0, I6, J7) else (f231 18 I6 J7).bind (fun (ov10, I11, J12) => (if ov1 = ov10 then some (1, I11, J12) else (f231 20 I11 J12).bind (fun (ov15, I16, J17) => (if ov1 = ov15 then some (2, I16, J17) else (f231 22 I16 J17).bind (fun (ov20, I21, J22) => (if ov1 = ov20 then some (3, I21, J22) else (f231 24 I21 J22).bind (fun (ov25, I26, J27) => (if ov1 = ov25 then some (4, I26, J27) else (f231 26 I26 J27).bind (fun (ov30, I31, J32) => (if ov1 = ov30 then some (5, I31, J32) else (f231 28 I31 J32).bind (fun (ov35, I36, J37) => (if ov1 = ov35 then some (6, I36, J37) else (f231 30 I36 J37).bind (fun (ov40, I41, J42) => (if ov1 = ov40 then some (7, I41, J42) else some ((-1), I41, J42))))))))))))))))))
theorem d248 {X : (Nat → Int32) × Nat} {d : Nat} {I : Nat → Nat → Int32} {J : Nat → Nat → Int64} {P : Nat → Nat → Value} {e r k r2 k2 : Nat}  {q : Int32 × (Nat → Nat → Int32) × (Nat → Nat → Int64)} (hw : pm_W P r k r2 k2)  (h : f248  I J = some q) : pm_Fn X (d + 6) 248 1 [.ref 127] (I, J, P, pm_T0, e) (.inl (some (.int q.1))) (q.2.1, q.2.2, P, pm_T0, e) := by
  obtain ⟨hp, hw1, hw2, hw3, hw4, hw5, hw6, hw7, hw8, hw9, hw10, hw11⟩ := id hw
  have hwa := hw5.1
  have hwb := hw6.1
  have hwc := hw7.1
  have hwd := hw8.1
  unfold f248 at h
  refine fn_v rc248 (c := 12) (nf := 59) (by first | rfl | assumption) ml248 rfl rfl rfl rfl ?_
  refine al0 c248_0 ?_
  obtain ⟨⟨ov1, I2, J3⟩, e4, h⟩ := pm_bd_sp h
  dsimp only at h
  refine cv1 q248_1 (v := .int ov1) (μ1 := (I2, J3, P, pm_T0, e)) (d229 hw e4) rfl ?_
  refine is1 c248_4 rfl ?_
  refine il1 c248_5 ?_
  refine r_ks v248_6 ?_
  obtain ⟨⟨ov5, I6, J7⟩, e8, h⟩ := pm_bd_sp h
  dsimp only at h
  refine cv1 q248_9 (v := .int ov5) (μ1 := (I6, J7, P, pm_T0, e)) (d231 hw (by first | rfl | assumption | decide) e8) rfl ?_
  refine r_icne (t := 19) c248_12 rfl (fun h9 => ?_) (fun h9 => ?_)
  · rw [if_neg h9] at h
    refine il1 c248_19 ?_
    refine r_ks v248_20 ?_
    obtain ⟨⟨ov10, I11, J12⟩, e13, h⟩ := pm_bd_sp h
    dsimp only at h
    refine cv1 q248_23 (v := .int ov10) (μ1 := (I11, J12, P, pm_T0, e)) (d231 hw (by first | rfl | assumption | decide) e13) rfl ?_
    refine r_icne (t := 33) c248_26 rfl (fun h14 => ?_) (fun h14 => ?_)
    · rw [if_neg h14] at h
      refine il1 c248_33 ?_
      refine r_ks v248_34 ?_
      obtain ⟨⟨ov15, I16, J17⟩, e18, h⟩ := pm_bd_sp h
      dsimp only at h
      refine cv1 q248_37 (v := .int ov15) (μ1 := (I16, J17, P, pm_T0, e)) (d231 hw (by first | rfl | assumption | decide) e18) rfl ?_
      refine r_icne (t := 47) c248_40 rfl (fun h19 => ?_) (fun h19 => ?_)
      · rw [if_neg h19] at h
        refine il1 c248_47 ?_
        refine r_ks v248_48 ?_
        obtain ⟨⟨ov20, I21, J22⟩, e23, h⟩ := pm_bd_sp h
        dsimp only at h
        refine cv1 q248_51 (v := .int ov20) (μ1 := (I21, J22, P, pm_T0, e)) (d231 hw (by first | rfl | assumption | decide) e23) rfl ?_
        refine r_icne (t := 61) c248_54 rfl (fun h24 => ?_) (fun h24 => ?_)
        · rw [if_neg h24] at h
          refine il1 c248_61 ?_
          refine r_ks v248_62 ?_
          obtain ⟨⟨ov25, I26, J27⟩, e28, h⟩ := pm_bd_sp h
          dsimp only at h
          refine cv1 q248_65 (v := .int ov25) (μ1 := (I26, J27, P, pm_T0, e)) (d231 hw (by first | rfl | assumption | decide) e28) rfl ?_
          refine r_icne (t := 75) c248_68 rfl (fun h29 => ?_) (fun h29 => ?_)
          · rw [if_neg h29] at h
            refine il1 c248_75 ?_
            refine r_ks v248_76 ?_
            obtain ⟨⟨ov30, I31, J32⟩, e33, h⟩ := pm_bd_sp h
            dsimp only at h
            refine cv1 q248_79 (v := .int ov30) (μ1 := (I31, J32, P, pm_T0, e)) (d231 hw (by first | rfl | assumption | decide) e33) rfl ?_
            refine r_icne (t := 89) c248_82 rfl (fun h34 => ?_) (fun h34 => ?_)
            · rw [if_neg h34] at h
              refine il1 c248_89 ?_
              refine r_ks v248_90 ?_
              obtain ⟨⟨ov35, I36, J37⟩, e38, h⟩ := pm_bd_sp h
              dsimp only at h
              refine cv1 q248_93 (v := .int ov35) (μ1 := (I36, J37, P, pm_T0, e)) (d231 hw (by first | rfl | assumption | decide) e38) rfl ?_
              refine r_icne (t := 104) c248_96 rfl (fun h39 => ?_) (fun h39 => ?_)
              · rw [if_neg h39] at h
                refine il1 c248_104 ?_
                refine r_ks v248_105 ?_
                obtain ⟨⟨ov40, I41, J42⟩, e43, h⟩ := pm_bd_sp h
                dsimp only at h
                refine cv1 q248_108 (v := .int ov40) (μ1 := (I41, J42, P, pm_T0, e)) (d231 hw (by first | rfl | assumption | decide) e43) rfl ?_
                refine r_icne (t := 119) c248_111 rfl (fun h44 => ?_) (fun h44 => ?_)
                · rw [if_neg h44] at h
                  refine r_ic c248_119 kIm1 ?_
                  cases h
                  exact r_ri c248_120 rt248 rfl rfl
                · rw [if_pos h44] at h
                  refine r_bi c248_114 kB7 ?_
                  refine r_go (t := 120) c248_116 rfl ?_
                  cases h
                  exact r_ri c248_120 rt248 rfl rfl
              · rw [if_pos h39] at h
                refine r_bi c248_99 kB6 ?_
                refine r_go (t := 120) c248_101 rfl ?_
                cases h
                exact r_ri c248_120 rt248 rfl rfl
            · rw [if_pos h34] at h
              refine r_ic c248_85 kI5 ?_
              refine r_go (t := 120) c248_86 rfl ?_
              cases h
              exact r_ri c248_120 rt248 rfl rfl
          · rw [if_pos h29] at h
            refine r_ic c248_71 kI4 ?_
            refine r_go (t := 120) c248_72 rfl ?_
            cases h
            exact r_ri c248_120 rt248 rfl rfl
        · rw [if_pos h24] at h
          refine r_ic c248_57 kI3 ?_
          refine r_go (t := 120) c248_58 rfl ?_
          cases h
          exact r_ri c248_120 rt248 rfl rfl
      · rw [if_pos h19] at h
        refine r_ic c248_43 kI2 ?_
        refine r_go (t := 120) c248_44 rfl ?_
        cases h
        exact r_ri c248_120 rt248 rfl rfl
    · rw [if_pos h14] at h
      refine r_ic c248_29 kI1 ?_
      refine r_go (t := 120) c248_30 rfl ?_
      cases h
      exact r_ri c248_120 rt248 rfl rfl
  · rw [if_pos h9] at h
    refine r_ic c248_15 kI0 ?_
    refine r_go (t := 120) c248_16 rfl ?_
    cases h
    exact r_ri c248_120 rt248 rfl rfl
def g242  : Nat → Nat → Nat → Int32 → Int32 → (Nat → Nat → Int32) → (Nat → Nat → Int64) → Option (Unit × (Nat → Nat → Int32) × (Nat → Nat → Int64))
  | 0, _, _, _, _, _, _ => none
  | _ + 1, 0, _, _, _, _, _ => none
  | fu + 1, dep + 1, 0, _, _, I, J => (g242 fu dep 1 0 0 I J).bind (fun (ov1, I2, J3) => g242 fu (dep + 1) 4 0 0 I2 J3)
  | fu + 1, dep + 1, 1, _, _, I, J => (g242 fu dep 2 0 0 I J).bind (fun (ov1, I2, J3) => g242 fu (dep + 1) 5 0 0 I2 J3)
  | fu + 1, dep + 1, 2, _, _, I, J => (if (v224  I) = true then (f226  I J).bind (fun (ov2, I3, J4) => (if ov2 = 40 then (f245 1 I3 J4).bind (fun (ov73, I74, J75) => (g242 fu dep 0 0 0 I74 J75).bind (fun (ov77, I78, J79) => (f238 41 I78 J79).bind (fun (ov81, I82, J83) => pm_lt (pm_w I82 127 7 ((I82 127 7) - 1)) (fun I85 => some ((), I85, J83))))) else (f226  I3 J4).bind (fun (ov7, I8, J9) => (if (v236 ov7 I8) = true then (f235 0 999 I8 J9).bind (fun (ov65, I66, J67) => (f246 0 ov65 I66 J67).bind (fun (ov69, I70, J71) => some ((), I70, J71))) else (f229  I8 J9).bind (fun (ov12, I13, J14) => (f231 12 I13 J14).bind (fun (ov16, I17, J18) => (if ov12 = ov16 then (g242 fu dep 3 5 6 I17 J18).bind (fun (ov61, I62, J63) => some ((), I62, J63)) else (f229  I17 J18).bind (fun (ov21, I22, J23) => (f231 14 I22 J23).bind (fun (ov25, I26, J27) => (if ov21 = ov25 then (g242 fu dep 3 4 7 I26 J27).bind (fun (ov57, I58, J59) => some ((), I58, J59)) else (f248  I26 J27).bind (fun (ov30, I31, J32) => (if ov30 = (-1) then (f232 1 (I31 127 4) I31 J32).bind (fun (ov44, I45, J46) => (if (v224  I45) = true then (f233  I45 J46).bind (fun (ov49, I50, J51) => (f246 1 ov30 I50 J51).bind (fun (ov53, I54, J55) => some ((), I54, J55))) else some ((), I45, J46))) else (if (v224  I31) = true then (f233  I31 J32).bind (fun (ov36, I37, J38) => (f246 1 ov30 I37 J38).bind (fun (ov40, I41, J42) => some ((), I41, J42))) else some ((), I31, J32)))))))))))))) else some ((), I, J))
  | fu + 1, dep + 1, 3, x1, x2, I, J => (f245 x1 I J).bind (fun (ov1, I2, J3) => (f238 91 I2 J3).bind (fun (ov5, I6, J7) => (g242 fu dep 0 0 0 I6 J7).bind (fun (ov9, I10, J11) => (f238 44 I10 J11).bind (fun (ov13, I14, J15) => (g242 fu dep 0 0 0 I14 J15).bind (fun (ov17, I18, J19) => (f238 93 I18 J19).bind (fun (ov21, I22, J23) => pm_lt (pm_w I22 127 7 ((I22 127 7) - 1)) (fun I25 => (f246 x2 0 I25 J23).bind (fun (ov26, I27, J28) => some ((), I27, J28)))))))))
  | fu + 1, dep + 1, 4, _, _, I, J => (if (v224  I) = true then (f226  I J).bind (fun (ov2, I3, J4) => (if ov2 = 43 then (f226  I3 J4).bind (fun (ov7, I8, J9) => (if ov7 = 43 then pm_lt (pm_w I8 127 4 ((I8 127 4) + 1)) (fun I21 => (g242 fu dep 1 0 0 I21 J9).bind (fun (ov22, I23, J24) => (f246 2 0 I23 J24).bind (fun (ov26, I27, J28) => g242 fu (dep + 1) 4 0 0 I27 J28))) else pm_lt (pm_w I8 127 4 ((I8 127 4) + 1)) (fun I12 => (g242 fu dep 1 0 0 I12 J9).bind (fun (ov13, I14, J15) => (f246 3 0 I14 J15).bind (fun (ov17, I18, J19) => g242 fu (dep + 1) 4 0 0 I18 J19))))) else (f226  I3 J4).bind (fun (ov30, I31, J32) => (if ov30 = 45 then (f226  I31 J32).bind (fun (ov35, I36, J37) => (if ov35 = 43 then pm_lt (pm_w I36 127 4 ((I36 127 4) + 1)) (fun I49 => (g242 fu dep 1 0 0 I49 J37).bind (fun (ov50, I51, J52) => (f246 2 0 I51 J52).bind (fun (ov54, I55, J56) => g242 fu (dep + 1) 4 0 0 I55 J56))) else pm_lt (pm_w I36 127 4 ((I36 127 4) + 1)) (fun I40 => (g242 fu dep 1 0 0 I40 J37).bind (fun (ov41, I42, J43) => (f246 3 0 I42 J43).bind (fun (ov45, I46, J47) => g242 fu (dep + 1) 4 0 0 I46 J47))))) else some ((), I31, J32))))) else some ((), I, J))
  | fu + 1, dep + 1, _ + 5, _, _, I, J => (if (v224  I) = true then (f226  I J).bind (fun (ov2, I3, J4) => (if ov2 = 42 then (f226  I3 J4).bind (fun (ov7, I8, J9) => (if ov7 = 42 then pm_lt (pm_w I8 127 4 ((I8 127 4) + 1)) (fun I21 => (g242 fu dep 2 0 0 I21 J9).bind (fun (ov22, I23, J24) => (f246 4 0 I23 J24).bind (fun (ov26, I27, J28) => g242 fu (dep + 1) 5 0 0 I27 J28))) else pm_lt (pm_w I8 127 4 ((I8 127 4) + 1)) (fun I12 => (g242 fu dep 2 0 0 I12 J9).bind (fun (ov13, I14, J15) => (f246 5 0 I14 J15).bind (fun (ov17, I18, J19) => g242 fu (dep + 1) 5 0 0 I18 J19))))) else (f226  I3 J4).bind (fun (ov30, I31, J32) => (if ov30 = 47 then (f226  I31 J32).bind (fun (ov35, I36, J37) => (if ov35 = 42 then pm_lt (pm_w I36 127 4 ((I36 127 4) + 1)) (fun I49 => (g242 fu dep 2 0 0 I49 J37).bind (fun (ov50, I51, J52) => (f246 4 0 I51 J52).bind (fun (ov54, I55, J56) => g242 fu (dep + 1) 5 0 0 I55 J56))) else pm_lt (pm_w I36 127 4 ((I36 127 4) + 1)) (fun I40 => (g242 fu dep 2 0 0 I40 J37).bind (fun (ov41, I42, J43) => (f246 5 0 I42 J43).bind (fun (ov45, I46, J47) => g242 fu (dep + 1) 5 0 0 I46 J47))))) else some ((), I31, J32))))) else some ((), I, J))
theorem dg242 {X : (Nat → Int32) × Nat} {d : Nat} {P : Nat → Nat → Value} {e r k r2 k2 : Nat}  (hw : pm_W P r k r2 k2)  : ∀ fu dep : Nat, (∀ {I : Nat → Nat → Int32} {J : Nat → Nat → Int64} {q : Unit × (Nat → Nat → Int32) × (Nat → Nat → Int64)} (h : g242 fu dep 0 0 0 I J = some q), pm_Fn X (d + dep + 7) 242 1 [.ref 127] (I, J, P, pm_T0, e) (.inl none) (q.2.1, q.2.2, P, pm_T0, e)) ∧ (∀ {I : Nat → Nat → Int32} {J : Nat → Nat → Int64} {q : Unit × (Nat → Nat → Int32) × (Nat → Nat → Int64)} (h : g242 fu dep 1 0 0 I J = some q), pm_Fn X (d + dep + 7) 243 1 [.ref 127] (I, J, P, pm_T0, e) (.inl none) (q.2.1, q.2.2, P, pm_T0, e)) ∧ (∀ {I : Nat → Nat → Int32} {J : Nat → Nat → Int64} {q : Unit × (Nat → Nat → Int32) × (Nat → Nat → Int64)} (h : g242 fu dep 2 0 0 I J = some q), pm_Fn X (d + dep + 7) 244 1 [.ref 127] (I, J, P, pm_T0, e) (.inl none) (q.2.1, q.2.2, P, pm_T0, e)) ∧ (∀ {x1 x2 : Int32} {I : Nat → Nat → Int32} {J : Nat → Nat → Int64} {q : Unit × (Nat → Nat → Int32) × (Nat → Nat → Int64)} (h : g242 fu dep 3 x1 x2 I J = some q), pm_Fn X (d + dep + 7) 247 1 [.ref 127, .int x1, .int x2] (I, J, P, pm_T0, e) (.inl none) (q.2.1, q.2.2, P, pm_T0, e)) ∧ (∀ {I : Nat → Nat → Int32} {J : Nat → Nat → Int64} {q : Unit × (Nat → Nat → Int32) × (Nat → Nat → Int64)} {z1 : Value} (h : g242 fu dep 4 0 0 I J = some q), pm_Fx X (d + dep + 7) 242 4 [.ref 127, z1] [] (I, J, P, pm_T0, e) (.inl none) (q.2.1, q.2.2, P, pm_T0, e)) ∧ (∀ {I : Nat → Nat → Int32} {J : Nat → Nat → Int64} {q : Unit × (Nat → Nat → Int32) × (Nat → Nat → Int64)} {z1 : Value} (h : g242 fu dep 5 0 0 I J = some q), pm_Fx X (d + dep + 7) 243 4 [.ref 127, z1] [] (I, J, P, pm_T0, e) (.inl none) (q.2.1, q.2.2, P, pm_T0, e)) := by
  obtain ⟨hp, hw1, hw2, hw3, hw4, hw5, hw6, hw7, hw8, hw9, hw10, hw11⟩ := id hw
  have hwa := hw5.1
  have hwb := hw6.1
  have hwc := hw7.1
  have hwd := hw8.1
  intro fu
  induction fu with
  | zero => exact fun dep => ⟨(by intro I J q h; cases h), (by intro I J q h; cases h), (by intro I J q h; cases h), (by intro x1 x2 I J q h; cases h), (by intro I J q z1 h; cases h), (by intro I J q z1 h; cases h)⟩
  | succ fu ih =>
    intro dep
    cases dep with
    | zero => exact ⟨(by intro I J q h; rw [g242] at h; cases h), (by intro I J q h; rw [g242] at h; cases h), (by intro I J q h; rw [g242] at h; cases h), (by intro x1 x2 I J q h; rw [g242] at h; cases h), (by intro I J q z1 h; rw [g242] at h; cases h), (by intro I J q z1 h; rw [g242] at h; cases h)⟩
    | succ dep =>
      have hd : d + (dep + 1) + 7 = d + dep + 7 + 1 := by omega
      refine ⟨?_, ?_, ?_, ?_, ?_, ?_⟩
      · intro I J q h
        rw [g242] at h
        rw [hd]
        refine fn_v rc242 (c := 12) (nf := 59) (by first | rfl | assumption) ml242 rfl rfl rfl rfl ?_
        refine al0 c242_0 ?_
        obtain ⟨⟨ov1, I2, J3⟩, e4, h⟩ := pm_bd_sp h
        dsimp only at h
        refine cz1 q242_1 (μ1 := (I2, J3, P, pm_T0, e)) ((ih dep).2.1 e4) rfl ?_
        (rw [← hd]; exact (ih (dep + 1)).2.2.2.2.1 h)
      · intro I J q h
        rw [g242] at h
        rw [hd]
        refine fn_v rc243 (c := 12) (nf := 59) (by first | rfl | assumption) ml243 rfl rfl rfl rfl ?_
        refine al0 c243_0 ?_
        obtain ⟨⟨ov1, I2, J3⟩, e4, h⟩ := pm_bd_sp h
        dsimp only at h
        refine cz1 q243_1 (μ1 := (I2, J3, P, pm_T0, e)) ((ih dep).2.2.1 e4) rfl ?_
        (rw [← hd]; exact (ih (dep + 1)).2.2.2.2.2 h)
      · intro I J q h
        rw [g242] at h
        rw [hd]
        refine fn_v rc244 (c := 12) (nf := 59) (by first | rfl | assumption) ml244 rfl rfl rfl rfl ?_
        refine al0 c244_0 ?_
        refine cv1 q244_1 (d224 hw rfl) rfl ?_
        refine r_ifne (t := 8) c244_4 rfl (fun h1 => ?_) (fun h1 => ?_)
        · rw [if_pos (pm_bt h1)] at h
          refine al0 c244_8 ?_
          obtain ⟨⟨ov2, I3, J4⟩, e5, h⟩ := pm_bd_sp h
          dsimp only at h
          refine cv1 q244_9 (v := .int ov2) (μ1 := (I3, J4, P, pm_T0, e)) (d226 hw e5) rfl ?_
          refine r_bi c244_12 kB40 ?_
          refine r_icne (t := 45) c244_14 rfl (fun h6 => ?_) (fun h6 => ?_)
          · rw [if_neg h6] at h
            refine al0 c244_45 ?_
            obtain ⟨⟨ov7, I8, J9⟩, e10, h⟩ := pm_bd_sp h
            dsimp only at h
            refine cv1 q244_46 (v := .int ov7) (μ1 := (I8, J9, P, pm_T0, e)) (d226 hw e10) rfl ?_
            refine cv1 q244_49 (d236 hw rfl) rfl ?_
            refine r_ifeq (t := 71) c244_52 rfl (fun h11 => ?_) (fun h11 => ?_)
            · rw [if_neg (pm_bf h11)] at h
              refine al0 c244_71 ?_
              obtain ⟨⟨ov12, I13, J14⟩, e15, h⟩ := pm_bd_sp h
              dsimp only at h
              refine cv1 q244_72 (v := .int ov12) (μ1 := (I13, J14, P, pm_T0, e)) (d229 hw e15) rfl ?_
              refine r_ks v244_75 ?_
              obtain ⟨⟨ov16, I17, J18⟩, e19, h⟩ := pm_bd_sp h
              dsimp only at h
              refine cv1 q244_78 (v := .int ov16) (μ1 := (I17, J18, P, pm_T0, e)) (d231 hw (by first | rfl | assumption | decide) e19) rfl ?_
              refine r_icne (t := 94) c244_81 rfl (fun h20 => ?_) (fun h20 => ?_)
              · rw [if_neg h20] at h
                refine al0 c244_94 ?_
                obtain ⟨⟨ov21, I22, J23⟩, e24, h⟩ := pm_bd_sp h
                dsimp only at h
                refine cv1 q244_95 (v := .int ov21) (μ1 := (I22, J23, P, pm_T0, e)) (d229 hw e24) rfl ?_
                refine r_ks v244_98 ?_
                obtain ⟨⟨ov25, I26, J27⟩, e28, h⟩ := pm_bd_sp h
                dsimp only at h
                refine cv1 q244_101 (v := .int ov25) (μ1 := (I26, J27, P, pm_T0, e)) (d231 hw (by first | rfl | assumption | decide) e28) rfl ?_
                refine r_icne (t := 117) c244_104 rfl (fun h29 => ?_) (fun h29 => ?_)
                · rw [if_neg h29] at h
                  refine al0 c244_117 ?_
                  obtain ⟨⟨ov30, I31, J32⟩, e33, h⟩ := pm_bd_sp h
                  dsimp only at h
                  refine cv1 q244_118 (v := .int ov30) (μ1 := (I31, J32, P, pm_T0, e)) (d248 hw e33) rfl ?_
                  refine is1 c244_121 rfl ?_
                  refine il1 c244_122 ?_
                  refine r_ic c244_123 kIm1 ?_
                  refine r_icne (t := 136) c244_124 rfl (fun h34 => ?_) (fun h34 => ?_)
                  · rw [if_neg h34] at h
                    refine al0 c244_136 ?_
                    refine cv1 q244_137 (d224 hw rfl) rfl ?_
                    refine r_ifne (t := 144) c244_140 rfl (fun h35 => ?_) (fun h35 => ?_)
                    · rw [if_pos (pm_bt h35)] at h
                      refine al0 c244_144 ?_
                      obtain ⟨⟨ov36, I37, J38⟩, e39, h⟩ := pm_bd_sp h
                      dsimp only at h
                      refine cz1 q244_145 (μ1 := (I37, J38, P, pm_T0, e)) (d233 hw e39) rfl ?_
                      refine al0 c244_148 ?_
                      refine r_ic c244_149 kI1 ?_
                      refine il1 c244_150 ?_
                      obtain ⟨⟨ov40, I41, J42⟩, e43, h⟩ := pm_bd_sp h
                      dsimp only at h
                      refine cz3 q244_151 (μ1 := (I41, J42, P, pm_T0, e)) (d246 hw e43) rfl ?_
                      cases h
                      exact r_rv c244_154 rt244 rfl
                    · rw [if_neg (pm_bf h35)] at h
                      cases h
                      exact r_rv c244_143 rt244 rfl
                  · rw [if_pos h34] at h
                    refine al0 c244_127 ?_
                    refine r_ic c244_128 kI1 ?_
                    refine al0 c244_129 ?_
                    refine r_gi g244_130 (by first | rfl | assumption) rfl ?_
                    obtain ⟨⟨ov44, I45, J46⟩, e47, h⟩ := pm_bd_sp h
                    dsimp only at h
                    refine cz3 q244_133 (μ1 := (I45, J46, P, pm_T0, e)) (d232 hw e47) rfl ?_
                    refine al0 c244_136 ?_
                    refine cv1 q244_137 (d224 hw rfl) rfl ?_
                    refine r_ifne (t := 144) c244_140 rfl (fun h48 => ?_) (fun h48 => ?_)
                    · rw [if_pos (pm_bt h48)] at h
                      refine al0 c244_144 ?_
                      obtain ⟨⟨ov49, I50, J51⟩, e52, h⟩ := pm_bd_sp h
                      dsimp only at h
                      refine cz1 q244_145 (μ1 := (I50, J51, P, pm_T0, e)) (d233 hw e52) rfl ?_
                      refine al0 c244_148 ?_
                      refine r_ic c244_149 kI1 ?_
                      refine il1 c244_150 ?_
                      obtain ⟨⟨ov53, I54, J55⟩, e56, h⟩ := pm_bd_sp h
                      dsimp only at h
                      refine cz3 q244_151 (μ1 := (I54, J55, P, pm_T0, e)) (d246 hw e56) rfl ?_
                      cases h
                      exact r_rv c244_154 rt244 rfl
                    · rw [if_neg (pm_bf h48)] at h
                      cases h
                      exact r_rv c244_143 rt244 rfl
                · rw [if_pos h29] at h
                  refine al0 c244_107 ?_
                  refine r_ic c244_108 kI4 ?_
                  refine r_bi c244_109 kB7 ?_
                  obtain ⟨⟨ov57, I58, J59⟩, e60, h⟩ := pm_bd_sp h
                  dsimp only at h
                  refine cz3 q244_111 (μ1 := (I58, J59, P, pm_T0, e)) ((ih dep).2.2.2.1 e60) rfl ?_
                  refine r_go (t := 154) c244_114 rfl ?_
                  cases h
                  exact r_rv c244_154 rt244 rfl
              · rw [if_pos h20] at h
                refine al0 c244_84 ?_
                refine r_ic c244_85 kI5 ?_
                refine r_bi c244_86 kB6 ?_
                obtain ⟨⟨ov61, I62, J63⟩, e64, h⟩ := pm_bd_sp h
                dsimp only at h
                refine cz3 q244_88 (μ1 := (I62, J63, P, pm_T0, e)) ((ih dep).2.2.2.1 e64) rfl ?_
                refine r_go (t := 154) c244_91 rfl ?_
                cases h
                exact r_rv c244_154 rt244 rfl
            · rw [if_pos (pm_bt h11)] at h
              refine al0 c244_55 ?_
              refine r_ic c244_56 kI0 ?_
              refine al0 c244_57 ?_
              refine r_ic c244_58 kI0 ?_
              refine r_si c244_59 kS999 ?_
              obtain ⟨⟨ov65, I66, J67⟩, e68, h⟩ := pm_bd_sp h
              dsimp only at h
              refine cv3 q244_62 (v := .int ov65) (μ1 := (I66, J67, P, pm_T0, e)) (d235 hw e68) rfl ?_
              obtain ⟨⟨ov69, I70, J71⟩, e72, h⟩ := pm_bd_sp h
              dsimp only at h
              refine cz3 q244_65 (μ1 := (I70, J71, P, pm_T0, e)) (d246 hw e72) rfl ?_
              refine r_go (t := 154) c244_68 rfl ?_
              cases h
              exact r_rv c244_154 rt244 rfl
          · rw [if_pos h6] at h
            refine al0 c244_17 ?_
            refine r_ic c244_18 kI1 ?_
            obtain ⟨⟨ov73, I74, J75⟩, e76, h⟩ := pm_bd_sp h
            dsimp only at h
            refine cz2 q244_19 (μ1 := (I74, J75, P, pm_T0, e)) (d245 hw e76) rfl ?_
            refine al0 c244_22 ?_
            obtain ⟨⟨ov77, I78, J79⟩, e80, h⟩ := pm_bd_sp h
            dsimp only at h
            refine cz1 q244_23 (μ1 := (I78, J79, P, pm_T0, e)) ((ih dep).1 e80) rfl ?_
            refine al0 c244_26 ?_
            refine r_bi c244_27 kB41 ?_
            obtain ⟨⟨ov81, I82, J83⟩, e84, h⟩ := pm_bd_sp h
            dsimp only at h
            refine cz2 q244_29 (μ1 := (I82, J83, P, pm_T0, e)) (d238 hw e84) rfl ?_
            refine al0 c244_32 ?_
            refine r_dpr c244_33 ?_
            refine r_gi g244_34 (by first | rfl | assumption) rfl ?_
            refine r_ic c244_37 kI1 ?_
            refine r_isub c244_38 ?_
            refine w_pi p244_39 (by first | rfl | assumption) rfl ?_
            rw [pm_lt_eq] at h
            generalize pm_w I82 127 7 ((I82 127 7) - 1) = I85 at h ⊢
            refine r_go (t := 154) c244_42 rfl ?_
            cases h
            exact r_rv c244_154 rt244 rfl
        · rw [if_neg (pm_bf h1)] at h
          cases h
          exact r_rv c244_7 rt244 rfl
      · intro x1 x2 I J q h
        rw [g242] at h
        rw [hd]
        refine fn_v rc247 (c := 12) (nf := 59) (by first | rfl | assumption) ml247 rfl rfl rfl rfl ?_
        refine al0 c247_0 ?_
        refine il1 c247_1 ?_
        obtain ⟨⟨ov1, I2, J3⟩, e4, h⟩ := pm_bd_sp h
        dsimp only at h
        refine cz2 q247_2 (μ1 := (I2, J3, P, pm_T0, e)) (d245 hw e4) rfl ?_
        refine al0 c247_5 ?_
        refine r_bi c247_6 kB91 ?_
        obtain ⟨⟨ov5, I6, J7⟩, e8, h⟩ := pm_bd_sp h
        dsimp only at h
        refine cz2 q247_8 (μ1 := (I6, J7, P, pm_T0, e)) (d238 hw e8) rfl ?_
        refine al0 c247_11 ?_
        obtain ⟨⟨ov9, I10, J11⟩, e12, h⟩ := pm_bd_sp h
        dsimp only at h
        refine cz1 q247_12 (μ1 := (I10, J11, P, pm_T0, e)) ((ih dep).1 e12) rfl ?_
        refine al0 c247_15 ?_
        refine r_bi c247_16 kB44 ?_
        obtain ⟨⟨ov13, I14, J15⟩, e16, h⟩ := pm_bd_sp h
        dsimp only at h
        refine cz2 q247_18 (μ1 := (I14, J15, P, pm_T0, e)) (d238 hw e16) rfl ?_
        refine al0 c247_21 ?_
        obtain ⟨⟨ov17, I18, J19⟩, e20, h⟩ := pm_bd_sp h
        dsimp only at h
        refine cz1 q247_22 (μ1 := (I18, J19, P, pm_T0, e)) ((ih dep).1 e20) rfl ?_
        refine al0 c247_25 ?_
        refine r_bi c247_26 kB93 ?_
        obtain ⟨⟨ov21, I22, J23⟩, e24, h⟩ := pm_bd_sp h
        dsimp only at h
        refine cz2 q247_28 (μ1 := (I22, J23, P, pm_T0, e)) (d238 hw e24) rfl ?_
        refine al0 c247_31 ?_
        refine r_dpr c247_32 ?_
        refine r_gi g247_33 (by first | rfl | assumption) rfl ?_
        refine r_ic c247_36 kI1 ?_
        refine r_isub c247_37 ?_
        refine w_pi p247_38 (by first | rfl | assumption) rfl ?_
        rw [pm_lt_eq] at h
        generalize pm_w I22 127 7 ((I22 127 7) - 1) = I25 at h ⊢
        refine al0 c247_41 ?_
        refine il2 c247_42 ?_
        refine r_ic c247_43 kI0 ?_
        obtain ⟨⟨ov26, I27, J28⟩, e29, h⟩ := pm_bd_sp h
        dsimp only at h
        refine cz3 q247_44 (μ1 := (I27, J28, P, pm_T0, e)) (d246 hw e29) rfl ?_
        cases h
        exact r_rv c247_47 rt247 rfl
      · intro I J q z1 h
        rw [g242] at h
        rw [hd]
        refine al0 c242_4 ?_
        refine cv1 q242_5 (d224 hw rfl) rfl ?_
        refine r_ifeq (t := 67) c242_8 rfl (fun h1 => ?_) (fun h1 => ?_)
        · rw [if_neg (pm_bf h1)] at h
          cases h
          exact r_rv c242_67 rt242 rfl
        · rw [if_pos (pm_bt h1)] at h
          refine al0 c242_11 ?_
          obtain ⟨⟨ov2, I3, J4⟩, e5, h⟩ := pm_bd_sp h
          dsimp only at h
          refine cv1 q242_12 (v := .int ov2) (μ1 := (I3, J4, P, pm_T0, e)) (d226 hw e5) rfl ?_
          refine r_bi c242_15 kB43 ?_
          refine r_iceq (t := 29) c242_17 rfl (fun h6 => ?_) (fun h6 => ?_)
          · rw [if_pos h6] at h
            refine al0 c242_29 ?_
            obtain ⟨⟨ov7, I8, J9⟩, e10, h⟩ := pm_bd_sp h
            dsimp only at h
            refine cv1 q242_30 (v := .int ov7) (μ1 := (I8, J9, P, pm_T0, e)) (d226 hw e10) rfl ?_
            refine r_bi c242_33 kB43 ?_
            refine r_icne (t := 42) c242_35 rfl (fun h11 => ?_) (fun h11 => ?_)
            · rw [if_neg h11] at h
              refine r_ic c242_42 kI3 ?_
              refine is1 c242_43 rfl ?_
              refine al0 c242_44 ?_
              refine r_dpr c242_45 ?_
              refine r_gi g242_46 (by first | rfl | assumption) rfl ?_
              refine r_ic c242_49 kI1 ?_
              refine r_iadd c242_50 ?_
              refine w_pi p242_51 (by first | rfl | assumption) rfl ?_
              rw [pm_lt_eq] at h
              generalize pm_w I8 127 4 ((I8 127 4) + 1) = I12 at h ⊢
              refine al0 c242_54 ?_
              obtain ⟨⟨ov13, I14, J15⟩, e16, h⟩ := pm_bd_sp h
              dsimp only at h
              refine cz1 q242_55 (μ1 := (I14, J15, P, pm_T0, e)) ((ih dep).2.1 e16) rfl ?_
              refine al0 c242_58 ?_
              refine il1 c242_59 ?_
              refine r_ic c242_60 kI0 ?_
              obtain ⟨⟨ov17, I18, J19⟩, e20, h⟩ := pm_bd_sp h
              dsimp only at h
              refine cz3 q242_61 (μ1 := (I18, J19, P, pm_T0, e)) (d246 hw e20) rfl ?_
              refine r_go (t := 4) c242_64 rfl ?_
              (rw [← hd]; exact (ih (dep + 1)).2.2.2.2.1 h)
            · rw [if_pos h11] at h
              refine r_ic c242_38 kI2 ?_
              refine r_go (t := 43) c242_39 rfl ?_
              refine is1 c242_43 rfl ?_
              refine al0 c242_44 ?_
              refine r_dpr c242_45 ?_
              refine r_gi g242_46 (by first | rfl | assumption) rfl ?_
              refine r_ic c242_49 kI1 ?_
              refine r_iadd c242_50 ?_
              refine w_pi p242_51 (by first | rfl | assumption) rfl ?_
              rw [pm_lt_eq] at h
              generalize pm_w I8 127 4 ((I8 127 4) + 1) = I21 at h ⊢
              refine al0 c242_54 ?_
              obtain ⟨⟨ov22, I23, J24⟩, e25, h⟩ := pm_bd_sp h
              dsimp only at h
              refine cz1 q242_55 (μ1 := (I23, J24, P, pm_T0, e)) ((ih dep).2.1 e25) rfl ?_
              refine al0 c242_58 ?_
              refine il1 c242_59 ?_
              refine r_ic c242_60 kI0 ?_
              obtain ⟨⟨ov26, I27, J28⟩, e29, h⟩ := pm_bd_sp h
              dsimp only at h
              refine cz3 q242_61 (μ1 := (I27, J28, P, pm_T0, e)) (d246 hw e29) rfl ?_
              refine r_go (t := 4) c242_64 rfl ?_
              (rw [← hd]; exact (ih (dep + 1)).2.2.2.2.1 h)
          · rw [if_neg h6] at h
            refine al0 c242_20 ?_
            obtain ⟨⟨ov30, I31, J32⟩, e33, h⟩ := pm_bd_sp h
            dsimp only at h
            refine cv1 q242_21 (v := .int ov30) (μ1 := (I31, J32, P, pm_T0, e)) (d226 hw e33) rfl ?_
            refine r_bi c242_24 kB45 ?_
            refine r_icne (t := 67) c242_26 rfl (fun h34 => ?_) (fun h34 => ?_)
            · rw [if_neg h34] at h
              cases h
              exact r_rv c242_67 rt242 rfl
            · rw [if_pos h34] at h
              refine al0 c242_29 ?_
              obtain ⟨⟨ov35, I36, J37⟩, e38, h⟩ := pm_bd_sp h
              dsimp only at h
              refine cv1 q242_30 (v := .int ov35) (μ1 := (I36, J37, P, pm_T0, e)) (d226 hw e38) rfl ?_
              refine r_bi c242_33 kB43 ?_
              refine r_icne (t := 42) c242_35 rfl (fun h39 => ?_) (fun h39 => ?_)
              · rw [if_neg h39] at h
                refine r_ic c242_42 kI3 ?_
                refine is1 c242_43 rfl ?_
                refine al0 c242_44 ?_
                refine r_dpr c242_45 ?_
                refine r_gi g242_46 (by first | rfl | assumption) rfl ?_
                refine r_ic c242_49 kI1 ?_
                refine r_iadd c242_50 ?_
                refine w_pi p242_51 (by first | rfl | assumption) rfl ?_
                rw [pm_lt_eq] at h
                generalize pm_w I36 127 4 ((I36 127 4) + 1) = I40 at h ⊢
                refine al0 c242_54 ?_
                obtain ⟨⟨ov41, I42, J43⟩, e44, h⟩ := pm_bd_sp h
                dsimp only at h
                refine cz1 q242_55 (μ1 := (I42, J43, P, pm_T0, e)) ((ih dep).2.1 e44) rfl ?_
                refine al0 c242_58 ?_
                refine il1 c242_59 ?_
                refine r_ic c242_60 kI0 ?_
                obtain ⟨⟨ov45, I46, J47⟩, e48, h⟩ := pm_bd_sp h
                dsimp only at h
                refine cz3 q242_61 (μ1 := (I46, J47, P, pm_T0, e)) (d246 hw e48) rfl ?_
                refine r_go (t := 4) c242_64 rfl ?_
                (rw [← hd]; exact (ih (dep + 1)).2.2.2.2.1 h)
              · rw [if_pos h39] at h
                refine r_ic c242_38 kI2 ?_
                refine r_go (t := 43) c242_39 rfl ?_
                refine is1 c242_43 rfl ?_
                refine al0 c242_44 ?_
                refine r_dpr c242_45 ?_
                refine r_gi g242_46 (by first | rfl | assumption) rfl ?_
                refine r_ic c242_49 kI1 ?_
                refine r_iadd c242_50 ?_
                refine w_pi p242_51 (by first | rfl | assumption) rfl ?_
                rw [pm_lt_eq] at h
                generalize pm_w I36 127 4 ((I36 127 4) + 1) = I49 at h ⊢
                refine al0 c242_54 ?_
                obtain ⟨⟨ov50, I51, J52⟩, e53, h⟩ := pm_bd_sp h
                dsimp only at h
                refine cz1 q242_55 (μ1 := (I51, J52, P, pm_T0, e)) ((ih dep).2.1 e53) rfl ?_
                refine al0 c242_58 ?_
                refine il1 c242_59 ?_
                refine r_ic c242_60 kI0 ?_
                obtain ⟨⟨ov54, I55, J56⟩, e57, h⟩ := pm_bd_sp h
                dsimp only at h
                refine cz3 q242_61 (μ1 := (I55, J56, P, pm_T0, e)) (d246 hw e57) rfl ?_
                refine r_go (t := 4) c242_64 rfl ?_
                (rw [← hd]; exact (ih (dep + 1)).2.2.2.2.1 h)
      · intro I J q z1 h
        rw [g242] at h
        rw [hd]
        refine al0 c243_4 ?_
        refine cv1 q243_5 (d224 hw rfl) rfl ?_
        refine r_ifeq (t := 67) c243_8 rfl (fun h1 => ?_) (fun h1 => ?_)
        · rw [if_neg (pm_bf h1)] at h
          cases h
          exact r_rv c243_67 rt243 rfl
        · rw [if_pos (pm_bt h1)] at h
          refine al0 c243_11 ?_
          obtain ⟨⟨ov2, I3, J4⟩, e5, h⟩ := pm_bd_sp h
          dsimp only at h
          refine cv1 q243_12 (v := .int ov2) (μ1 := (I3, J4, P, pm_T0, e)) (d226 hw e5) rfl ?_
          refine r_bi c243_15 kB42 ?_
          refine r_iceq (t := 29) c243_17 rfl (fun h6 => ?_) (fun h6 => ?_)
          · rw [if_pos h6] at h
            refine al0 c243_29 ?_
            obtain ⟨⟨ov7, I8, J9⟩, e10, h⟩ := pm_bd_sp h
            dsimp only at h
            refine cv1 q243_30 (v := .int ov7) (μ1 := (I8, J9, P, pm_T0, e)) (d226 hw e10) rfl ?_
            refine r_bi c243_33 kB42 ?_
            refine r_icne (t := 42) c243_35 rfl (fun h11 => ?_) (fun h11 => ?_)
            · rw [if_neg h11] at h
              refine r_ic c243_42 kI5 ?_
              refine is1 c243_43 rfl ?_
              refine al0 c243_44 ?_
              refine r_dpr c243_45 ?_
              refine r_gi g243_46 (by first | rfl | assumption) rfl ?_
              refine r_ic c243_49 kI1 ?_
              refine r_iadd c243_50 ?_
              refine w_pi p243_51 (by first | rfl | assumption) rfl ?_
              rw [pm_lt_eq] at h
              generalize pm_w I8 127 4 ((I8 127 4) + 1) = I12 at h ⊢
              refine al0 c243_54 ?_
              obtain ⟨⟨ov13, I14, J15⟩, e16, h⟩ := pm_bd_sp h
              dsimp only at h
              refine cz1 q243_55 (μ1 := (I14, J15, P, pm_T0, e)) ((ih dep).2.2.1 e16) rfl ?_
              refine al0 c243_58 ?_
              refine il1 c243_59 ?_
              refine r_ic c243_60 kI0 ?_
              obtain ⟨⟨ov17, I18, J19⟩, e20, h⟩ := pm_bd_sp h
              dsimp only at h
              refine cz3 q243_61 (μ1 := (I18, J19, P, pm_T0, e)) (d246 hw e20) rfl ?_
              refine r_go (t := 4) c243_64 rfl ?_
              (rw [← hd]; exact (ih (dep + 1)).2.2.2.2.2 h)
            · rw [if_pos h11] at h
              refine r_ic c243_38 kI4 ?_
              refine r_go (t := 43) c243_39 rfl ?_
              refine is1 c243_43 rfl ?_
              refine al0 c243_44 ?_
              refine r_dpr c243_45 ?_
              refine r_gi g243_46 (by first | rfl | assumption) rfl ?_
              refine r_ic c243_49 kI1 ?_
              refine r_iadd c243_50 ?_
              refine w_pi p243_51 (by first | rfl | assumption) rfl ?_
              rw [pm_lt_eq] at h
              generalize pm_w I8 127 4 ((I8 127 4) + 1) = I21 at h ⊢
              refine al0 c243_54 ?_
              obtain ⟨⟨ov22, I23, J24⟩, e25, h⟩ := pm_bd_sp h
              dsimp only at h
              refine cz1 q243_55 (μ1 := (I23, J24, P, pm_T0, e)) ((ih dep).2.2.1 e25) rfl ?_
              refine al0 c243_58 ?_
              refine il1 c243_59 ?_
              refine r_ic c243_60 kI0 ?_
              obtain ⟨⟨ov26, I27, J28⟩, e29, h⟩ := pm_bd_sp h
              dsimp only at h
              refine cz3 q243_61 (μ1 := (I27, J28, P, pm_T0, e)) (d246 hw e29) rfl ?_
              refine r_go (t := 4) c243_64 rfl ?_
              (rw [← hd]; exact (ih (dep + 1)).2.2.2.2.2 h)
          · rw [if_neg h6] at h
            refine al0 c243_20 ?_
            obtain ⟨⟨ov30, I31, J32⟩, e33, h⟩ := pm_bd_sp h
            dsimp only at h
            refine cv1 q243_21 (v := .int ov30) (μ1 := (I31, J32, P, pm_T0, e)) (d226 hw e33) rfl ?_
            refine r_bi c243_24 kB47 ?_
            refine r_icne (t := 67) c243_26 rfl (fun h34 => ?_) (fun h34 => ?_)
            · rw [if_neg h34] at h
              cases h
              exact r_rv c243_67 rt243 rfl
            · rw [if_pos h34] at h
              refine al0 c243_29 ?_
              obtain ⟨⟨ov35, I36, J37⟩, e38, h⟩ := pm_bd_sp h
              dsimp only at h
              refine cv1 q243_30 (v := .int ov35) (μ1 := (I36, J37, P, pm_T0, e)) (d226 hw e38) rfl ?_
              refine r_bi c243_33 kB42 ?_
              refine r_icne (t := 42) c243_35 rfl (fun h39 => ?_) (fun h39 => ?_)
              · rw [if_neg h39] at h
                refine r_ic c243_42 kI5 ?_
                refine is1 c243_43 rfl ?_
                refine al0 c243_44 ?_
                refine r_dpr c243_45 ?_
                refine r_gi g243_46 (by first | rfl | assumption) rfl ?_
                refine r_ic c243_49 kI1 ?_
                refine r_iadd c243_50 ?_
                refine w_pi p243_51 (by first | rfl | assumption) rfl ?_
                rw [pm_lt_eq] at h
                generalize pm_w I36 127 4 ((I36 127 4) + 1) = I40 at h ⊢
                refine al0 c243_54 ?_
                obtain ⟨⟨ov41, I42, J43⟩, e44, h⟩ := pm_bd_sp h
                dsimp only at h
                refine cz1 q243_55 (μ1 := (I42, J43, P, pm_T0, e)) ((ih dep).2.2.1 e44) rfl ?_
                refine al0 c243_58 ?_
                refine il1 c243_59 ?_
                refine r_ic c243_60 kI0 ?_
                obtain ⟨⟨ov45, I46, J47⟩, e48, h⟩ := pm_bd_sp h
                dsimp only at h
                refine cz3 q243_61 (μ1 := (I46, J47, P, pm_T0, e)) (d246 hw e48) rfl ?_
                refine r_go (t := 4) c243_64 rfl ?_
                (rw [← hd]; exact (ih (dep + 1)).2.2.2.2.2 h)
              · rw [if_pos h39] at h
                refine r_ic c243_38 kI4 ?_
                refine r_go (t := 43) c243_39 rfl ?_
                refine is1 c243_43 rfl ?_
                refine al0 c243_44 ?_
                refine r_dpr c243_45 ?_
                refine r_gi g243_46 (by first | rfl | assumption) rfl ?_
                refine r_ic c243_49 kI1 ?_
                refine r_iadd c243_50 ?_
                refine w_pi p243_51 (by first | rfl | assumption) rfl ?_
                rw [pm_lt_eq] at h
                generalize pm_w I36 127 4 ((I36 127 4) + 1) = I49 at h ⊢
                refine al0 c243_54 ?_
                obtain ⟨⟨ov50, I51, J52⟩, e53, h⟩ := pm_bd_sp h
                dsimp only at h
                refine cz1 q243_55 (μ1 := (I51, J52, P, pm_T0, e)) ((ih dep).2.2.1 e53) rfl ?_
                refine al0 c243_58 ?_
                refine il1 c243_59 ?_
                refine r_ic c243_60 kI0 ?_
                obtain ⟨⟨ov54, I55, J56⟩, e57, h⟩ := pm_bd_sp h
                dsimp only at h
                refine cz3 q243_61 (μ1 := (I55, J56, P, pm_T0, e)) (d246 hw e57) rfl ?_
                refine r_go (t := 4) c243_64 rfl ?_
                (rw [← hd]; exact (ih (dep + 1)).2.2.2.2.2 h)
def f242  (I : Nat → Nat → Int32) (J : Nat → Nat → Int64) : Option (Unit × (Nat → Nat → Int32) × (Nat → Nat → Int64)) := g242 pm_FU 40 0 0 0 I J
theorem d242 {X : (Nat → Int32) × Nat} {d : Nat} {I : Nat → Nat → Int32} {J : Nat → Nat → Int64} {P : Nat → Nat → Value} {e r k r2 k2 : Nat}  {q : Unit × (Nat → Nat → Int32) × (Nat → Nat → Int64)} (hw : pm_W P r k r2 k2)  (h : f242  I J = some q) : pm_Fn X (d + 47) 242 1 [.ref 127] (I, J, P, pm_T0, e) (.inl none) (q.2.1, q.2.2, P, pm_T0, e) := by
  have hd : d + 40 + 7 = d + 47 := by omega
  rw [← hd]
  exact (dg242 hw pm_FU 40).1 h
def f243  (I : Nat → Nat → Int32) (J : Nat → Nat → Int64) : Option (Unit × (Nat → Nat → Int32) × (Nat → Nat → Int64)) := g242 pm_FU 40 1 0 0 I J
theorem d243 {X : (Nat → Int32) × Nat} {d : Nat} {I : Nat → Nat → Int32} {J : Nat → Nat → Int64} {P : Nat → Nat → Value} {e r k r2 k2 : Nat}  {q : Unit × (Nat → Nat → Int32) × (Nat → Nat → Int64)} (hw : pm_W P r k r2 k2)  (h : f243  I J = some q) : pm_Fn X (d + 47) 243 1 [.ref 127] (I, J, P, pm_T0, e) (.inl none) (q.2.1, q.2.2, P, pm_T0, e) := by
  have hd : d + 40 + 7 = d + 47 := by omega
  rw [← hd]
  exact (dg242 hw pm_FU 40).2.1 h
def f244  (I : Nat → Nat → Int32) (J : Nat → Nat → Int64) : Option (Unit × (Nat → Nat → Int32) × (Nat → Nat → Int64)) := g242 pm_FU 40 2 0 0 I J
theorem d244 {X : (Nat → Int32) × Nat} {d : Nat} {I : Nat → Nat → Int32} {J : Nat → Nat → Int64} {P : Nat → Nat → Value} {e r k r2 k2 : Nat}  {q : Unit × (Nat → Nat → Int32) × (Nat → Nat → Int64)} (hw : pm_W P r k r2 k2)  (h : f244  I J = some q) : pm_Fn X (d + 47) 244 1 [.ref 127] (I, J, P, pm_T0, e) (.inl none) (q.2.1, q.2.2, P, pm_T0, e) := by
  have hd : d + 40 + 7 = d + 47 := by omega
  rw [← hd]
  exact (dg242 hw pm_FU 40).2.2.1 h
def f247 (x1 : Int32) (x2 : Int32) (I : Nat → Nat → Int32) (J : Nat → Nat → Int64) : Option (Unit × (Nat → Nat → Int32) × (Nat → Nat → Int64)) := g242 pm_FU 40 3 x1 x2 I J
theorem d247 {X : (Nat → Int32) × Nat} {d : Nat} {I : Nat → Nat → Int32} {J : Nat → Nat → Int64} {P : Nat → Nat → Value} {e r k r2 k2 : Nat} {x1 : Int32} {x2 : Int32} {q : Unit × (Nat → Nat → Int32) × (Nat → Nat → Int64)} (hw : pm_W P r k r2 k2)  (h : f247 x1 x2 I J = some q) : pm_Fn X (d + 47) 247 1 [.ref 127, .int x1, .int x2] (I, J, P, pm_T0, e) (.inl none) (q.2.1, q.2.2, P, pm_T0, e) := by
  have hd : d + 40 + 7 = d + 47 := by omega
  rw [← hd]
  exact (dg242 hw pm_FU 40).2.2.2.1 h
def f240_115  : Nat → Int32 → Int32 → Int32 → (Nat → Nat → Int32) → (Nat → Nat → Int64) → Option (Int32 × (Nat → Nat → Int32) × (Nat → Nat → Int64))
  | 0, _, _, _, _, _ => none
  | fu + 1, y1, y3, y4, I, J => (if y4.toInt < (I 127 27).toInt then pm_gd (pm_in y4 150) (pm_gd (pm_in ((150 * y1) + y4) 300) (pm_lt (pm_w I 136 ((150 * y1) + y4).toNatClampNeg (I 134 (y4).toNatClampNeg)) (fun I4 => pm_gd (pm_in y4 150) (pm_gd (pm_in ((150 * y1) + y4) 300) (pm_lt (pm_w I4 137 ((150 * y1) + y4).toNatClampNeg (I4 135 (y4).toNatClampNeg)) (fun I7 => f240_115 fu y1 y3 (y4 + 1) I7 J)))))) else some (y3, I, J))
def f240 (x1 : Int32) (x2 : Int32) (I : Nat → Nat → Int32) (J : Nat → Nat → Int64) : Option (Int32 × (Nat → Nat → Int32) × (Nat → Nat → Int64)) := pm_lt (pm_w I 127 0 0) (fun I1 => (if (v241 x1 0 1 I1) = true then (if x2.toInt < 0 then (f222 0 1 1 I1 J).bind (fun (ov49, I50, J51) => (if ov49 = true then (f223 x2 I50 J51).bind (fun (ov54, I55, J56) => pm_lt (pm_w I55 127 27 0) (fun I58 => (f242  I58 J56).bind (fun (ov59, I60, J61) => (if (v224  I60) = true then (f225  I60 J61).bind (fun (ov71, I72, J73) => (if ov71 = true then (f232 1 (I72 127 4) I72 J73).bind (fun (ov83, I84, J85) => (f239 1 I84 J85).bind (fun (ov87, I88, J89) => (if (I88 127 5) = (-1) then pm_gd (pm_in x1 2) (pm_lt (pm_w I88 138 (x1).toNatClampNeg (I88 127 27)) (fun I93 => f240_115 pm_FU x1 ov87 0 I93 J89)) else some (ov87, I88, J89)))) else (f239 1 I72 J73).bind (fun (ov76, I77, J78) => (if (I77 127 5) = (-1) then pm_gd (pm_in x1 2) (pm_lt (pm_w I77 138 (x1).toNatClampNeg (I77 127 27)) (fun I82 => f240_115 pm_FU x1 ov76 0 I82 J78)) else some (ov76, I77, J78))))) else (f239 1 I60 J61).bind (fun (ov64, I65, J66) => (if (I65 127 5) = (-1) then pm_gd (pm_in x1 2) (pm_lt (pm_w I65 138 (x1).toNatClampNeg (I65 127 27)) (fun I70 => f240_115 pm_FU x1 ov64 0 I70 J66)) else some (ov64, I65, J66))))))) else some (0, I50, J51))) else (if (I1 127 2).toInt < x2.toInt then (f222 0 1 1 I1 J).bind (fun (ov95, I96, J97) => (if ov95 = true then (f223 x2 I96 J97).bind (fun (ov100, I101, J102) => pm_lt (pm_w I101 127 27 0) (fun I104 => (f242  I104 J102).bind (fun (ov105, I106, J107) => (if (v224  I106) = true then (f225  I106 J107).bind (fun (ov117, I118, J119) => (if ov117 = true then (f232 1 (I118 127 4) I118 J119).bind (fun (ov129, I130, J131) => (f239 1 I130 J131).bind (fun (ov133, I134, J135) => (if (I134 127 5) = (-1) then pm_gd (pm_in x1 2) (pm_lt (pm_w I134 138 (x1).toNatClampNeg (I134 127 27)) (fun I139 => f240_115 pm_FU x1 ov133 0 I139 J135)) else some (ov133, I134, J135)))) else (f239 1 I118 J119).bind (fun (ov122, I123, J124) => (if (I123 127 5) = (-1) then pm_gd (pm_in x1 2) (pm_lt (pm_w I123 138 (x1).toNatClampNeg (I123 127 27)) (fun I128 => f240_115 pm_FU x1 ov122 0 I128 J124)) else some (ov122, I123, J124))))) else (f239 1 I106 J107).bind (fun (ov110, I111, J112) => (if (I111 127 5) = (-1) then pm_gd (pm_in x1 2) (pm_lt (pm_w I111 138 (x1).toNatClampNeg (I111 127 27)) (fun I116 => f240_115 pm_FU x1 ov110 0 I116 J112)) else some (ov110, I111, J112))))))) else some (0, I96, J97))) else (if (150 : Int32).toInt < x2.toInt then (f222 0 1 1 I1 J).bind (fun (ov141, I142, J143) => (if ov141 = true then (f223 x2 I142 J143).bind (fun (ov146, I147, J148) => pm_lt (pm_w I147 127 27 0) (fun I150 => (f242  I150 J148).bind (fun (ov151, I152, J153) => (if (v224  I152) = true then (f225  I152 J153).bind (fun (ov163, I164, J165) => (if ov163 = true then (f232 1 (I164 127 4) I164 J165).bind (fun (ov175, I176, J177) => (f239 1 I176 J177).bind (fun (ov179, I180, J181) => (if (I180 127 5) = (-1) then pm_gd (pm_in x1 2) (pm_lt (pm_w I180 138 (x1).toNatClampNeg (I180 127 27)) (fun I185 => f240_115 pm_FU x1 ov179 0 I185 J181)) else some (ov179, I180, J181)))) else (f239 1 I164 J165).bind (fun (ov168, I169, J170) => (if (I169 127 5) = (-1) then pm_gd (pm_in x1 2) (pm_lt (pm_w I169 138 (x1).toNatClampNeg (I169 127 27)) (fun I174 => f240_115 pm_FU x1 ov168 0 I174 J170)) else some (ov168, I169, J170))))) else (f239 1 I152 J153).bind (fun (ov156, I157, J158) => (if (I157 127 5) = (-1) then pm_gd (pm_in x1 2) (pm_lt (pm_w I157 138 (x1).toNatClampNeg (I157 127 27)) (fun I162 => f240_115 pm_FU x1 ov156 0 I162 J158)) else some (ov156, I157, J158))))))) else some (0, I142, J143))) else (f222 1 1 1 I1 J).bind (fun (ov186, I187, J188) => (if ov186 = true then (f223 x2 I187 J188).bind (fun (ov191, I192, J193) => pm_lt (pm_w I192 127 27 0) (fun I195 => (f242  I195 J193).bind (fun (ov196, I197, J198) => (if (v224  I197) = true then (f225  I197 J198).bind (fun (ov208, I209, J210) => (if ov208 = true then (f232 1 (I209 127 4) I209 J210).bind (fun (ov220, I221, J222) => (f239 1 I221 J222).bind (fun (ov224, I225, J226) => (if (I225 127 5) = (-1) then pm_gd (pm_in x1 2) (pm_lt (pm_w I225 138 (x1).toNatClampNeg (I225 127 27)) (fun I230 => f240_115 pm_FU x1 ov224 0 I230 J226)) else some (ov224, I225, J226)))) else (f239 1 I209 J210).bind (fun (ov213, I214, J215) => (if (I214 127 5) = (-1) then pm_gd (pm_in x1 2) (pm_lt (pm_w I214 138 (x1).toNatClampNeg (I214 127 27)) (fun I219 => f240_115 pm_FU x1 ov213 0 I219 J215)) else some (ov213, I214, J215))))) else (f239 1 I197 J198).bind (fun (ov201, I202, J203) => (if (I202 127 5) = (-1) then pm_gd (pm_in x1 2) (pm_lt (pm_w I202 138 (x1).toNatClampNeg (I202 127 27)) (fun I207 => f240_115 pm_FU x1 ov201 0 I207 J203)) else some (ov201, I202, J203))))))) else some (0, I187, J188)))))) else (f222 0 1 1 I1 J).bind (fun (ov3, I4, J5) => (if ov3 = true then (f223 x2 I4 J5).bind (fun (ov8, I9, J10) => pm_lt (pm_w I9 127 27 0) (fun I12 => (f242  I12 J10).bind (fun (ov13, I14, J15) => (if (v224  I14) = true then (f225  I14 J15).bind (fun (ov25, I26, J27) => (if ov25 = true then (f232 1 (I26 127 4) I26 J27).bind (fun (ov37, I38, J39) => (f239 1 I38 J39).bind (fun (ov41, I42, J43) => (if (I42 127 5) = (-1) then pm_gd (pm_in x1 2) (pm_lt (pm_w I42 138 (x1).toNatClampNeg (I42 127 27)) (fun I47 => f240_115 pm_FU x1 ov41 0 I47 J43)) else some (ov41, I42, J43)))) else (f239 1 I26 J27).bind (fun (ov30, I31, J32) => (if (I31 127 5) = (-1) then pm_gd (pm_in x1 2) (pm_lt (pm_w I31 138 (x1).toNatClampNeg (I31 127 27)) (fun I36 => f240_115 pm_FU x1 ov30 0 I36 J32)) else some (ov30, I31, J32))))) else (f239 1 I14 J15).bind (fun (ov18, I19, J20) => (if (I19 127 5) = (-1) then pm_gd (pm_in x1 2) (pm_lt (pm_w I19 138 (x1).toNatClampNeg (I19 127 27)) (fun I24 => f240_115 pm_FU x1 ov18 0 I24 J20)) else some (ov18, I19, J20))))))) else some (0, I4, J5)))))
theorem d240_115 {X : (Nat → Int32) × Nat} {d : Nat} {P : Nat → Nat → Value} {e r k r2 k2 : Nat}  (hw : pm_W P r k r2 k2)  : ∀ (fu : Nat) {y1 y3 y4 : Int32} {I : Nat → Nat → Int32} {J : Nat → Nat → Int64} {q : Int32 × (Nat → Nat → Int32) × (Nat → Nat → Int64)} {z2 : Value} (h : f240_115 fu y1 y3 y4 I J = some q), pm_Fx X (d + 48) 240 115 [.ref 127, .int y1, z2, .int y3, .int y4] [] (I, J, P, pm_T0, e) (.inl (some (.int q.1))) (q.2.1, q.2.2, P, pm_T0, e) := by
  obtain ⟨hp, hw1, hw2, hw3, hw4, hw5, hw6, hw7, hw8, hw9, hw10, hw11⟩ := id hw
  have hwa := hw5.1
  have hwb := hw6.1
  have hwc := hw7.1
  have hwd := hw8.1
  intro fu
  induction fu with
  | zero => intro y1 y3 y4 I J q z2 h; cases h
  | succ fu ih =>
    intro y1 y3 y4 I J q z2 h
    rw [f240_115] at h
    refine il4 c240_115 ?_
    refine al0 c240_117 ?_
    refine r_gi g240_118 (by first | rfl | assumption) rfl ?_
    refine r_icge (t := 170) c240_121 rfl (fun h1 => ?_) (fun h1 => ?_)
    · rw [if_neg (Int.not_lt.mpr h1)] at h
      refine il3 c240_170 ?_
      cases h
      exact r_ri c240_171 rt240 rfl rfl
    · rw [if_pos h1] at h
      refine al0 c240_124 ?_
      refine r_gr g240_125 rfl rfl (hp _ _ _ rfl) ?_
      refine r_si c240_128 kS150 ?_
      refine il1 c240_131 ?_
      refine r_imul c240_132 ?_
      refine il4 c240_133 ?_
      refine r_iadd c240_135 ?_
      refine al0 c240_136 ?_
      refine r_gr g240_137 rfl rfl (hp _ _ _ rfl) ?_
      refine il4 c240_140 ?_
      obtain ⟨gd2, h⟩ := pm_gd_sp h
      refine w_ia c240_142 (by first | rfl | assumption) gd2 ?_
      obtain ⟨gd3, h⟩ := pm_gd_sp h
      refine w_ist c240_143 (by first | rfl | assumption) gd3 ?_
      rw [pm_lt_eq] at h
      generalize pm_w I 136 ((150 * y1) + y4).toNatClampNeg (I 134 (y4).toNatClampNeg) = I4 at h ⊢
      refine al0 c240_144 ?_
      refine r_gr g240_145 rfl rfl (hp _ _ _ rfl) ?_
      refine r_si c240_148 kS150 ?_
      refine il1 c240_151 ?_
      refine r_imul c240_152 ?_
      refine il4 c240_153 ?_
      refine r_iadd c240_155 ?_
      refine al0 c240_156 ?_
      refine r_gr g240_157 rfl rfl (hp _ _ _ rfl) ?_
      refine il4 c240_160 ?_
      obtain ⟨gd5, h⟩ := pm_gd_sp h
      refine w_ia c240_162 (by first | rfl | assumption) gd5 ?_
      obtain ⟨gd6, h⟩ := pm_gd_sp h
      refine w_ist c240_163 (by first | rfl | assumption) gd6 ?_
      rw [pm_lt_eq] at h
      generalize pm_w I4 137 ((150 * y1) + y4).toNatClampNeg (I4 135 (y4).toNatClampNeg) = I7 at h ⊢
      refine ii4 c240_164 kI1 rfl ?_
      refine r_go (t := 115) c240_167 rfl ?_
      exact ih h
theorem d240 {X : (Nat → Int32) × Nat} {d : Nat} {I : Nat → Nat → Int32} {J : Nat → Nat → Int64} {P : Nat → Nat → Value} {e r k r2 k2 : Nat} {x1 : Int32} {x2 : Int32} {q : Int32 × (Nat → Nat → Int32) × (Nat → Nat → Int64)} (hw : pm_W P r k r2 k2)  (h : f240 x1 x2 I J = some q) : pm_Fn X (d + 48) 240 1 [.ref 127, .int x1, .int x2] (I, J, P, pm_T0, e) (.inl (some (.int q.1))) (q.2.1, q.2.2, P, pm_T0, e) := by
  obtain ⟨hp, hw1, hw2, hw3, hw4, hw5, hw6, hw7, hw8, hw9, hw10, hw11⟩ := id hw
  have hwa := hw5.1
  have hwb := hw6.1
  have hwc := hw7.1
  have hwd := hw8.1
  unfold f240 at h
  refine fn_v rc240 (c := 12) (nf := 59) (by first | rfl | assumption) ml240 rfl rfl rfl rfl ?_
  refine al0 c240_0 ?_
  refine r_ic c240_1 kI0 ?_
  refine w_pi p240_2 (by first | rfl | assumption) rfl ?_
  rw [pm_lt_eq] at h
  generalize pm_w I 127 0 0 = I1 at h ⊢
  refine al0 c240_5 ?_
  refine il1 c240_6 ?_
  refine r_ic c240_7 kI0 ?_
  refine r_ic c240_8 kI1 ?_
  refine cv3 q240_9 (d241 hw rfl) rfl ?_
  refine r_ifeq (t := 38) c240_12 rfl (fun h2 => ?_) (fun h2 => ?_)
  · rw [if_neg (pm_bf h2)] at h
    refine r_ic c240_38 kI0 ?_
    refine r_ic c240_39 kI1 ?_
    refine r_ic c240_40 kI1 ?_
    obtain ⟨⟨ov3, I4, J5⟩, e6, h⟩ := pm_bd_sp h
    dsimp only at h
    refine cv4 q240_41 (v := .int (pm_bi ov3)) (μ1 := (I4, J5, P, pm_T0, e)) (d222 hw e6) rfl ?_
    refine r_ifne (t := 49) c240_44 rfl (fun h7 => ?_) (fun h7 => ?_)
    · rw [if_pos (pm_bt h7)] at h
      refine al0 c240_49 ?_
      refine il2 c240_50 ?_
      obtain ⟨⟨ov8, I9, J10⟩, e11, h⟩ := pm_bd_sp h
      dsimp only at h
      refine cz2 q240_51 (μ1 := (I9, J10, P, pm_T0, e)) (d223 hw e11) rfl ?_
      refine al0 c240_54 ?_
      refine r_ic c240_55 kI0 ?_
      refine w_pi p240_56 (by first | rfl | assumption) rfl ?_
      rw [pm_lt_eq] at h
      generalize pm_w I9 127 27 0 = I12 at h ⊢
      refine al0 c240_59 ?_
      obtain ⟨⟨ov13, I14, J15⟩, e16, h⟩ := pm_bd_sp h
      dsimp only at h
      refine cz1 q240_60 (μ1 := (I14, J15, P, pm_T0, e)) (d242 hw e16) rfl ?_
      refine al0 c240_63 ?_
      refine cv1 q240_64 (d224 hw rfl) rfl ?_
      refine r_ifeq (t := 86) c240_67 rfl (fun h17 => ?_) (fun h17 => ?_)
      · rw [if_neg (pm_bf h17)] at h
        refine al0 c240_86 ?_
        refine r_ic c240_87 kI1 ?_
        obtain ⟨⟨ov18, I19, J20⟩, e21, h⟩ := pm_bd_sp h
        dsimp only at h
        refine cv2 q240_88 (v := .int ov18) (μ1 := (I19, J20, P, pm_T0, e)) (d239 hw e21) rfl ?_
        refine is3 c240_91 rfl ?_
        refine al0 c240_92 ?_
        refine r_gi g240_93 (by first | rfl | assumption) rfl ?_
        refine r_ic c240_96 kIm1 ?_
        refine r_iceq (t := 102) c240_97 rfl (fun h22 => ?_) (fun h22 => ?_)
        · rw [if_pos h22] at h
          refine al0 c240_102 ?_
          refine r_gr g240_103 rfl rfl (hp _ _ _ rfl) ?_
          refine il1 c240_106 ?_
          refine al0 c240_107 ?_
          refine r_gi g240_108 (by first | rfl | assumption) rfl ?_
          obtain ⟨gd23, h⟩ := pm_gd_sp h
          refine w_ist c240_111 (by first | rfl | assumption) gd23 ?_
          rw [pm_lt_eq] at h
          generalize pm_w I19 138 (x1).toNatClampNeg (I19 127 27) = I24 at h ⊢
          refine r_ic c240_112 kI0 ?_
          refine is4 c240_113 rfl ?_
          exact d240_115 hw pm_FU h
        · rw [if_neg h22] at h
          refine il3 c240_100 ?_
          cases h
          exact r_ri c240_101 rt240 rfl rfl
      · rw [if_pos (pm_bt h17)] at h
        refine al0 c240_70 ?_
        obtain ⟨⟨ov25, I26, J27⟩, e28, h⟩ := pm_bd_sp h
        dsimp only at h
        refine cv1 q240_71 (v := .int (pm_bi ov25)) (μ1 := (I26, J27, P, pm_T0, e)) (d225 hw e28) rfl ?_
        refine r_ifeq (t := 86) c240_74 rfl (fun h29 => ?_) (fun h29 => ?_)
        · rw [if_neg (pm_bf h29)] at h
          refine al0 c240_86 ?_
          refine r_ic c240_87 kI1 ?_
          obtain ⟨⟨ov30, I31, J32⟩, e33, h⟩ := pm_bd_sp h
          dsimp only at h
          refine cv2 q240_88 (v := .int ov30) (μ1 := (I31, J32, P, pm_T0, e)) (d239 hw e33) rfl ?_
          refine is3 c240_91 rfl ?_
          refine al0 c240_92 ?_
          refine r_gi g240_93 (by first | rfl | assumption) rfl ?_
          refine r_ic c240_96 kIm1 ?_
          refine r_iceq (t := 102) c240_97 rfl (fun h34 => ?_) (fun h34 => ?_)
          · rw [if_pos h34] at h
            refine al0 c240_102 ?_
            refine r_gr g240_103 rfl rfl (hp _ _ _ rfl) ?_
            refine il1 c240_106 ?_
            refine al0 c240_107 ?_
            refine r_gi g240_108 (by first | rfl | assumption) rfl ?_
            obtain ⟨gd35, h⟩ := pm_gd_sp h
            refine w_ist c240_111 (by first | rfl | assumption) gd35 ?_
            rw [pm_lt_eq] at h
            generalize pm_w I31 138 (x1).toNatClampNeg (I31 127 27) = I36 at h ⊢
            refine r_ic c240_112 kI0 ?_
            refine is4 c240_113 rfl ?_
            exact d240_115 hw pm_FU h
          · rw [if_neg h34] at h
            refine il3 c240_100 ?_
            cases h
            exact r_ri c240_101 rt240 rfl rfl
        · rw [if_pos (pm_bt h29)] at h
          refine al0 c240_77 ?_
          refine r_ic c240_78 kI1 ?_
          refine al0 c240_79 ?_
          refine r_gi g240_80 (by first | rfl | assumption) rfl ?_
          obtain ⟨⟨ov37, I38, J39⟩, e40, h⟩ := pm_bd_sp h
          dsimp only at h
          refine cz3 q240_83 (μ1 := (I38, J39, P, pm_T0, e)) (d232 hw e40) rfl ?_
          refine al0 c240_86 ?_
          refine r_ic c240_87 kI1 ?_
          obtain ⟨⟨ov41, I42, J43⟩, e44, h⟩ := pm_bd_sp h
          dsimp only at h
          refine cv2 q240_88 (v := .int ov41) (μ1 := (I42, J43, P, pm_T0, e)) (d239 hw e44) rfl ?_
          refine is3 c240_91 rfl ?_
          refine al0 c240_92 ?_
          refine r_gi g240_93 (by first | rfl | assumption) rfl ?_
          refine r_ic c240_96 kIm1 ?_
          refine r_iceq (t := 102) c240_97 rfl (fun h45 => ?_) (fun h45 => ?_)
          · rw [if_pos h45] at h
            refine al0 c240_102 ?_
            refine r_gr g240_103 rfl rfl (hp _ _ _ rfl) ?_
            refine il1 c240_106 ?_
            refine al0 c240_107 ?_
            refine r_gi g240_108 (by first | rfl | assumption) rfl ?_
            obtain ⟨gd46, h⟩ := pm_gd_sp h
            refine w_ist c240_111 (by first | rfl | assumption) gd46 ?_
            rw [pm_lt_eq] at h
            generalize pm_w I42 138 (x1).toNatClampNeg (I42 127 27) = I47 at h ⊢
            refine r_ic c240_112 kI0 ?_
            refine is4 c240_113 rfl ?_
            exact d240_115 hw pm_FU h
          · rw [if_neg h45] at h
            refine il3 c240_100 ?_
            cases h
            exact r_ri c240_101 rt240 rfl rfl
    · rw [if_neg (pm_bf h7)] at h
      refine r_ic c240_47 kI0 ?_
      cases h
      exact r_ri c240_48 rt240 rfl rfl
  · rw [if_pos (pm_bt h2)] at h
    refine il2 c240_15 ?_
    refine r_iflt (t := 38) c240_16 rfl (fun h48 => ?_) (fun h48 => ?_)
    · rw [if_pos h48] at h
      refine r_ic c240_38 kI0 ?_
      refine r_ic c240_39 kI1 ?_
      refine r_ic c240_40 kI1 ?_
      obtain ⟨⟨ov49, I50, J51⟩, e52, h⟩ := pm_bd_sp h
      dsimp only at h
      refine cv4 q240_41 (v := .int (pm_bi ov49)) (μ1 := (I50, J51, P, pm_T0, e)) (d222 hw e52) rfl ?_
      refine r_ifne (t := 49) c240_44 rfl (fun h53 => ?_) (fun h53 => ?_)
      · rw [if_pos (pm_bt h53)] at h
        refine al0 c240_49 ?_
        refine il2 c240_50 ?_
        obtain ⟨⟨ov54, I55, J56⟩, e57, h⟩ := pm_bd_sp h
        dsimp only at h
        refine cz2 q240_51 (μ1 := (I55, J56, P, pm_T0, e)) (d223 hw e57) rfl ?_
        refine al0 c240_54 ?_
        refine r_ic c240_55 kI0 ?_
        refine w_pi p240_56 (by first | rfl | assumption) rfl ?_
        rw [pm_lt_eq] at h
        generalize pm_w I55 127 27 0 = I58 at h ⊢
        refine al0 c240_59 ?_
        obtain ⟨⟨ov59, I60, J61⟩, e62, h⟩ := pm_bd_sp h
        dsimp only at h
        refine cz1 q240_60 (μ1 := (I60, J61, P, pm_T0, e)) (d242 hw e62) rfl ?_
        refine al0 c240_63 ?_
        refine cv1 q240_64 (d224 hw rfl) rfl ?_
        refine r_ifeq (t := 86) c240_67 rfl (fun h63 => ?_) (fun h63 => ?_)
        · rw [if_neg (pm_bf h63)] at h
          refine al0 c240_86 ?_
          refine r_ic c240_87 kI1 ?_
          obtain ⟨⟨ov64, I65, J66⟩, e67, h⟩ := pm_bd_sp h
          dsimp only at h
          refine cv2 q240_88 (v := .int ov64) (μ1 := (I65, J66, P, pm_T0, e)) (d239 hw e67) rfl ?_
          refine is3 c240_91 rfl ?_
          refine al0 c240_92 ?_
          refine r_gi g240_93 (by first | rfl | assumption) rfl ?_
          refine r_ic c240_96 kIm1 ?_
          refine r_iceq (t := 102) c240_97 rfl (fun h68 => ?_) (fun h68 => ?_)
          · rw [if_pos h68] at h
            refine al0 c240_102 ?_
            refine r_gr g240_103 rfl rfl (hp _ _ _ rfl) ?_
            refine il1 c240_106 ?_
            refine al0 c240_107 ?_
            refine r_gi g240_108 (by first | rfl | assumption) rfl ?_
            obtain ⟨gd69, h⟩ := pm_gd_sp h
            refine w_ist c240_111 (by first | rfl | assumption) gd69 ?_
            rw [pm_lt_eq] at h
            generalize pm_w I65 138 (x1).toNatClampNeg (I65 127 27) = I70 at h ⊢
            refine r_ic c240_112 kI0 ?_
            refine is4 c240_113 rfl ?_
            exact d240_115 hw pm_FU h
          · rw [if_neg h68] at h
            refine il3 c240_100 ?_
            cases h
            exact r_ri c240_101 rt240 rfl rfl
        · rw [if_pos (pm_bt h63)] at h
          refine al0 c240_70 ?_
          obtain ⟨⟨ov71, I72, J73⟩, e74, h⟩ := pm_bd_sp h
          dsimp only at h
          refine cv1 q240_71 (v := .int (pm_bi ov71)) (μ1 := (I72, J73, P, pm_T0, e)) (d225 hw e74) rfl ?_
          refine r_ifeq (t := 86) c240_74 rfl (fun h75 => ?_) (fun h75 => ?_)
          · rw [if_neg (pm_bf h75)] at h
            refine al0 c240_86 ?_
            refine r_ic c240_87 kI1 ?_
            obtain ⟨⟨ov76, I77, J78⟩, e79, h⟩ := pm_bd_sp h
            dsimp only at h
            refine cv2 q240_88 (v := .int ov76) (μ1 := (I77, J78, P, pm_T0, e)) (d239 hw e79) rfl ?_
            refine is3 c240_91 rfl ?_
            refine al0 c240_92 ?_
            refine r_gi g240_93 (by first | rfl | assumption) rfl ?_
            refine r_ic c240_96 kIm1 ?_
            refine r_iceq (t := 102) c240_97 rfl (fun h80 => ?_) (fun h80 => ?_)
            · rw [if_pos h80] at h
              refine al0 c240_102 ?_
              refine r_gr g240_103 rfl rfl (hp _ _ _ rfl) ?_
              refine il1 c240_106 ?_
              refine al0 c240_107 ?_
              refine r_gi g240_108 (by first | rfl | assumption) rfl ?_
              obtain ⟨gd81, h⟩ := pm_gd_sp h
              refine w_ist c240_111 (by first | rfl | assumption) gd81 ?_
              rw [pm_lt_eq] at h
              generalize pm_w I77 138 (x1).toNatClampNeg (I77 127 27) = I82 at h ⊢
              refine r_ic c240_112 kI0 ?_
              refine is4 c240_113 rfl ?_
              exact d240_115 hw pm_FU h
            · rw [if_neg h80] at h
              refine il3 c240_100 ?_
              cases h
              exact r_ri c240_101 rt240 rfl rfl
          · rw [if_pos (pm_bt h75)] at h
            refine al0 c240_77 ?_
            refine r_ic c240_78 kI1 ?_
            refine al0 c240_79 ?_
            refine r_gi g240_80 (by first | rfl | assumption) rfl ?_
            obtain ⟨⟨ov83, I84, J85⟩, e86, h⟩ := pm_bd_sp h
            dsimp only at h
            refine cz3 q240_83 (μ1 := (I84, J85, P, pm_T0, e)) (d232 hw e86) rfl ?_
            refine al0 c240_86 ?_
            refine r_ic c240_87 kI1 ?_
            obtain ⟨⟨ov87, I88, J89⟩, e90, h⟩ := pm_bd_sp h
            dsimp only at h
            refine cv2 q240_88 (v := .int ov87) (μ1 := (I88, J89, P, pm_T0, e)) (d239 hw e90) rfl ?_
            refine is3 c240_91 rfl ?_
            refine al0 c240_92 ?_
            refine r_gi g240_93 (by first | rfl | assumption) rfl ?_
            refine r_ic c240_96 kIm1 ?_
            refine r_iceq (t := 102) c240_97 rfl (fun h91 => ?_) (fun h91 => ?_)
            · rw [if_pos h91] at h
              refine al0 c240_102 ?_
              refine r_gr g240_103 rfl rfl (hp _ _ _ rfl) ?_
              refine il1 c240_106 ?_
              refine al0 c240_107 ?_
              refine r_gi g240_108 (by first | rfl | assumption) rfl ?_
              obtain ⟨gd92, h⟩ := pm_gd_sp h
              refine w_ist c240_111 (by first | rfl | assumption) gd92 ?_
              rw [pm_lt_eq] at h
              generalize pm_w I88 138 (x1).toNatClampNeg (I88 127 27) = I93 at h ⊢
              refine r_ic c240_112 kI0 ?_
              refine is4 c240_113 rfl ?_
              exact d240_115 hw pm_FU h
            · rw [if_neg h91] at h
              refine il3 c240_100 ?_
              cases h
              exact r_ri c240_101 rt240 rfl rfl
      · rw [if_neg (pm_bf h53)] at h
        refine r_ic c240_47 kI0 ?_
        cases h
        exact r_ri c240_48 rt240 rfl rfl
    · rw [if_neg (Int.not_lt.mpr h48)] at h
      refine il2 c240_19 ?_
      refine al0 c240_20 ?_
      refine r_gi g240_21 (by first | rfl | assumption) rfl ?_
      refine r_icgt (t := 38) c240_24 rfl (fun h94 => ?_) (fun h94 => ?_)
      · rw [if_pos h94] at h
        refine r_ic c240_38 kI0 ?_
        refine r_ic c240_39 kI1 ?_
        refine r_ic c240_40 kI1 ?_
        obtain ⟨⟨ov95, I96, J97⟩, e98, h⟩ := pm_bd_sp h
        dsimp only at h
        refine cv4 q240_41 (v := .int (pm_bi ov95)) (μ1 := (I96, J97, P, pm_T0, e)) (d222 hw e98) rfl ?_
        refine r_ifne (t := 49) c240_44 rfl (fun h99 => ?_) (fun h99 => ?_)
        · rw [if_pos (pm_bt h99)] at h
          refine al0 c240_49 ?_
          refine il2 c240_50 ?_
          obtain ⟨⟨ov100, I101, J102⟩, e103, h⟩ := pm_bd_sp h
          dsimp only at h
          refine cz2 q240_51 (μ1 := (I101, J102, P, pm_T0, e)) (d223 hw e103) rfl ?_
          refine al0 c240_54 ?_
          refine r_ic c240_55 kI0 ?_
          refine w_pi p240_56 (by first | rfl | assumption) rfl ?_
          rw [pm_lt_eq] at h
          generalize pm_w I101 127 27 0 = I104 at h ⊢
          refine al0 c240_59 ?_
          obtain ⟨⟨ov105, I106, J107⟩, e108, h⟩ := pm_bd_sp h
          dsimp only at h
          refine cz1 q240_60 (μ1 := (I106, J107, P, pm_T0, e)) (d242 hw e108) rfl ?_
          refine al0 c240_63 ?_
          refine cv1 q240_64 (d224 hw rfl) rfl ?_
          refine r_ifeq (t := 86) c240_67 rfl (fun h109 => ?_) (fun h109 => ?_)
          · rw [if_neg (pm_bf h109)] at h
            refine al0 c240_86 ?_
            refine r_ic c240_87 kI1 ?_
            obtain ⟨⟨ov110, I111, J112⟩, e113, h⟩ := pm_bd_sp h
            dsimp only at h
            refine cv2 q240_88 (v := .int ov110) (μ1 := (I111, J112, P, pm_T0, e)) (d239 hw e113) rfl ?_
            refine is3 c240_91 rfl ?_
            refine al0 c240_92 ?_
            refine r_gi g240_93 (by first | rfl | assumption) rfl ?_
            refine r_ic c240_96 kIm1 ?_
            refine r_iceq (t := 102) c240_97 rfl (fun h114 => ?_) (fun h114 => ?_)
            · rw [if_pos h114] at h
              refine al0 c240_102 ?_
              refine r_gr g240_103 rfl rfl (hp _ _ _ rfl) ?_
              refine il1 c240_106 ?_
              refine al0 c240_107 ?_
              refine r_gi g240_108 (by first | rfl | assumption) rfl ?_
              obtain ⟨gd115, h⟩ := pm_gd_sp h
              refine w_ist c240_111 (by first | rfl | assumption) gd115 ?_
              rw [pm_lt_eq] at h
              generalize pm_w I111 138 (x1).toNatClampNeg (I111 127 27) = I116 at h ⊢
              refine r_ic c240_112 kI0 ?_
              refine is4 c240_113 rfl ?_
              exact d240_115 hw pm_FU h
            · rw [if_neg h114] at h
              refine il3 c240_100 ?_
              cases h
              exact r_ri c240_101 rt240 rfl rfl
          · rw [if_pos (pm_bt h109)] at h
            refine al0 c240_70 ?_
            obtain ⟨⟨ov117, I118, J119⟩, e120, h⟩ := pm_bd_sp h
            dsimp only at h
            refine cv1 q240_71 (v := .int (pm_bi ov117)) (μ1 := (I118, J119, P, pm_T0, e)) (d225 hw e120) rfl ?_
            refine r_ifeq (t := 86) c240_74 rfl (fun h121 => ?_) (fun h121 => ?_)
            · rw [if_neg (pm_bf h121)] at h
              refine al0 c240_86 ?_
              refine r_ic c240_87 kI1 ?_
              obtain ⟨⟨ov122, I123, J124⟩, e125, h⟩ := pm_bd_sp h
              dsimp only at h
              refine cv2 q240_88 (v := .int ov122) (μ1 := (I123, J124, P, pm_T0, e)) (d239 hw e125) rfl ?_
              refine is3 c240_91 rfl ?_
              refine al0 c240_92 ?_
              refine r_gi g240_93 (by first | rfl | assumption) rfl ?_
              refine r_ic c240_96 kIm1 ?_
              refine r_iceq (t := 102) c240_97 rfl (fun h126 => ?_) (fun h126 => ?_)
              · rw [if_pos h126] at h
                refine al0 c240_102 ?_
                refine r_gr g240_103 rfl rfl (hp _ _ _ rfl) ?_
                refine il1 c240_106 ?_
                refine al0 c240_107 ?_
                refine r_gi g240_108 (by first | rfl | assumption) rfl ?_
                obtain ⟨gd127, h⟩ := pm_gd_sp h
                refine w_ist c240_111 (by first | rfl | assumption) gd127 ?_
                rw [pm_lt_eq] at h
                generalize pm_w I123 138 (x1).toNatClampNeg (I123 127 27) = I128 at h ⊢
                refine r_ic c240_112 kI0 ?_
                refine is4 c240_113 rfl ?_
                exact d240_115 hw pm_FU h
              · rw [if_neg h126] at h
                refine il3 c240_100 ?_
                cases h
                exact r_ri c240_101 rt240 rfl rfl
            · rw [if_pos (pm_bt h121)] at h
              refine al0 c240_77 ?_
              refine r_ic c240_78 kI1 ?_
              refine al0 c240_79 ?_
              refine r_gi g240_80 (by first | rfl | assumption) rfl ?_
              obtain ⟨⟨ov129, I130, J131⟩, e132, h⟩ := pm_bd_sp h
              dsimp only at h
              refine cz3 q240_83 (μ1 := (I130, J131, P, pm_T0, e)) (d232 hw e132) rfl ?_
              refine al0 c240_86 ?_
              refine r_ic c240_87 kI1 ?_
              obtain ⟨⟨ov133, I134, J135⟩, e136, h⟩ := pm_bd_sp h
              dsimp only at h
              refine cv2 q240_88 (v := .int ov133) (μ1 := (I134, J135, P, pm_T0, e)) (d239 hw e136) rfl ?_
              refine is3 c240_91 rfl ?_
              refine al0 c240_92 ?_
              refine r_gi g240_93 (by first | rfl | assumption) rfl ?_
              refine r_ic c240_96 kIm1 ?_
              refine r_iceq (t := 102) c240_97 rfl (fun h137 => ?_) (fun h137 => ?_)
              · rw [if_pos h137] at h
                refine al0 c240_102 ?_
                refine r_gr g240_103 rfl rfl (hp _ _ _ rfl) ?_
                refine il1 c240_106 ?_
                refine al0 c240_107 ?_
                refine r_gi g240_108 (by first | rfl | assumption) rfl ?_
                obtain ⟨gd138, h⟩ := pm_gd_sp h
                refine w_ist c240_111 (by first | rfl | assumption) gd138 ?_
                rw [pm_lt_eq] at h
                generalize pm_w I134 138 (x1).toNatClampNeg (I134 127 27) = I139 at h ⊢
                refine r_ic c240_112 kI0 ?_
                refine is4 c240_113 rfl ?_
                exact d240_115 hw pm_FU h
              · rw [if_neg h137] at h
                refine il3 c240_100 ?_
                cases h
                exact r_ri c240_101 rt240 rfl rfl
        · rw [if_neg (pm_bf h99)] at h
          refine r_ic c240_47 kI0 ?_
          cases h
          exact r_ri c240_48 rt240 rfl rfl
      · rw [if_neg (Int.not_lt.mpr h94)] at h
        refine il2 c240_27 ?_
        refine r_si c240_28 kS150 ?_
        refine r_icgt (t := 38) c240_31 rfl (fun h140 => ?_) (fun h140 => ?_)
        · rw [if_pos h140] at h
          refine r_ic c240_38 kI0 ?_
          refine r_ic c240_39 kI1 ?_
          refine r_ic c240_40 kI1 ?_
          obtain ⟨⟨ov141, I142, J143⟩, e144, h⟩ := pm_bd_sp h
          dsimp only at h
          refine cv4 q240_41 (v := .int (pm_bi ov141)) (μ1 := (I142, J143, P, pm_T0, e)) (d222 hw e144) rfl ?_
          refine r_ifne (t := 49) c240_44 rfl (fun h145 => ?_) (fun h145 => ?_)
          · rw [if_pos (pm_bt h145)] at h
            refine al0 c240_49 ?_
            refine il2 c240_50 ?_
            obtain ⟨⟨ov146, I147, J148⟩, e149, h⟩ := pm_bd_sp h
            dsimp only at h
            refine cz2 q240_51 (μ1 := (I147, J148, P, pm_T0, e)) (d223 hw e149) rfl ?_
            refine al0 c240_54 ?_
            refine r_ic c240_55 kI0 ?_
            refine w_pi p240_56 (by first | rfl | assumption) rfl ?_
            rw [pm_lt_eq] at h
            generalize pm_w I147 127 27 0 = I150 at h ⊢
            refine al0 c240_59 ?_
            obtain ⟨⟨ov151, I152, J153⟩, e154, h⟩ := pm_bd_sp h
            dsimp only at h
            refine cz1 q240_60 (μ1 := (I152, J153, P, pm_T0, e)) (d242 hw e154) rfl ?_
            refine al0 c240_63 ?_
            refine cv1 q240_64 (d224 hw rfl) rfl ?_
            refine r_ifeq (t := 86) c240_67 rfl (fun h155 => ?_) (fun h155 => ?_)
            · rw [if_neg (pm_bf h155)] at h
              refine al0 c240_86 ?_
              refine r_ic c240_87 kI1 ?_
              obtain ⟨⟨ov156, I157, J158⟩, e159, h⟩ := pm_bd_sp h
              dsimp only at h
              refine cv2 q240_88 (v := .int ov156) (μ1 := (I157, J158, P, pm_T0, e)) (d239 hw e159) rfl ?_
              refine is3 c240_91 rfl ?_
              refine al0 c240_92 ?_
              refine r_gi g240_93 (by first | rfl | assumption) rfl ?_
              refine r_ic c240_96 kIm1 ?_
              refine r_iceq (t := 102) c240_97 rfl (fun h160 => ?_) (fun h160 => ?_)
              · rw [if_pos h160] at h
                refine al0 c240_102 ?_
                refine r_gr g240_103 rfl rfl (hp _ _ _ rfl) ?_
                refine il1 c240_106 ?_
                refine al0 c240_107 ?_
                refine r_gi g240_108 (by first | rfl | assumption) rfl ?_
                obtain ⟨gd161, h⟩ := pm_gd_sp h
                refine w_ist c240_111 (by first | rfl | assumption) gd161 ?_
                rw [pm_lt_eq] at h
                generalize pm_w I157 138 (x1).toNatClampNeg (I157 127 27) = I162 at h ⊢
                refine r_ic c240_112 kI0 ?_
                refine is4 c240_113 rfl ?_
                exact d240_115 hw pm_FU h
              · rw [if_neg h160] at h
                refine il3 c240_100 ?_
                cases h
                exact r_ri c240_101 rt240 rfl rfl
            · rw [if_pos (pm_bt h155)] at h
              refine al0 c240_70 ?_
              obtain ⟨⟨ov163, I164, J165⟩, e166, h⟩ := pm_bd_sp h
              dsimp only at h
              refine cv1 q240_71 (v := .int (pm_bi ov163)) (μ1 := (I164, J165, P, pm_T0, e)) (d225 hw e166) rfl ?_
              refine r_ifeq (t := 86) c240_74 rfl (fun h167 => ?_) (fun h167 => ?_)
              · rw [if_neg (pm_bf h167)] at h
                refine al0 c240_86 ?_
                refine r_ic c240_87 kI1 ?_
                obtain ⟨⟨ov168, I169, J170⟩, e171, h⟩ := pm_bd_sp h
                dsimp only at h
                refine cv2 q240_88 (v := .int ov168) (μ1 := (I169, J170, P, pm_T0, e)) (d239 hw e171) rfl ?_
                refine is3 c240_91 rfl ?_
                refine al0 c240_92 ?_
                refine r_gi g240_93 (by first | rfl | assumption) rfl ?_
                refine r_ic c240_96 kIm1 ?_
                refine r_iceq (t := 102) c240_97 rfl (fun h172 => ?_) (fun h172 => ?_)
                · rw [if_pos h172] at h
                  refine al0 c240_102 ?_
                  refine r_gr g240_103 rfl rfl (hp _ _ _ rfl) ?_
                  refine il1 c240_106 ?_
                  refine al0 c240_107 ?_
                  refine r_gi g240_108 (by first | rfl | assumption) rfl ?_
                  obtain ⟨gd173, h⟩ := pm_gd_sp h
                  refine w_ist c240_111 (by first | rfl | assumption) gd173 ?_
                  rw [pm_lt_eq] at h
                  generalize pm_w I169 138 (x1).toNatClampNeg (I169 127 27) = I174 at h ⊢
                  refine r_ic c240_112 kI0 ?_
                  refine is4 c240_113 rfl ?_
                  exact d240_115 hw pm_FU h
                · rw [if_neg h172] at h
                  refine il3 c240_100 ?_
                  cases h
                  exact r_ri c240_101 rt240 rfl rfl
              · rw [if_pos (pm_bt h167)] at h
                refine al0 c240_77 ?_
                refine r_ic c240_78 kI1 ?_
                refine al0 c240_79 ?_
                refine r_gi g240_80 (by first | rfl | assumption) rfl ?_
                obtain ⟨⟨ov175, I176, J177⟩, e178, h⟩ := pm_bd_sp h
                dsimp only at h
                refine cz3 q240_83 (μ1 := (I176, J177, P, pm_T0, e)) (d232 hw e178) rfl ?_
                refine al0 c240_86 ?_
                refine r_ic c240_87 kI1 ?_
                obtain ⟨⟨ov179, I180, J181⟩, e182, h⟩ := pm_bd_sp h
                dsimp only at h
                refine cv2 q240_88 (v := .int ov179) (μ1 := (I180, J181, P, pm_T0, e)) (d239 hw e182) rfl ?_
                refine is3 c240_91 rfl ?_
                refine al0 c240_92 ?_
                refine r_gi g240_93 (by first | rfl | assumption) rfl ?_
                refine r_ic c240_96 kIm1 ?_
                refine r_iceq (t := 102) c240_97 rfl (fun h183 => ?_) (fun h183 => ?_)
                · rw [if_pos h183] at h
                  refine al0 c240_102 ?_
                  refine r_gr g240_103 rfl rfl (hp _ _ _ rfl) ?_
                  refine il1 c240_106 ?_
                  refine al0 c240_107 ?_
                  refine r_gi g240_108 (by first | rfl | assumption) rfl ?_
                  obtain ⟨gd184, h⟩ := pm_gd_sp h
                  refine w_ist c240_111 (by first | rfl | assumption) gd184 ?_
                  rw [pm_lt_eq] at h
                  generalize pm_w I180 138 (x1).toNatClampNeg (I180 127 27) = I185 at h ⊢
                  refine r_ic c240_112 kI0 ?_
                  refine is4 c240_113 rfl ?_
                  exact d240_115 hw pm_FU h
                · rw [if_neg h183] at h
                  refine il3 c240_100 ?_
                  cases h
                  exact r_ri c240_101 rt240 rfl rfl
          · rw [if_neg (pm_bf h145)] at h
            refine r_ic c240_47 kI0 ?_
            cases h
            exact r_ri c240_48 rt240 rfl rfl
        · rw [if_neg (Int.not_lt.mpr h140)] at h
          refine r_ic c240_34 kI1 ?_
          refine r_go (t := 39) c240_35 rfl ?_
          refine r_ic c240_39 kI1 ?_
          refine r_ic c240_40 kI1 ?_
          obtain ⟨⟨ov186, I187, J188⟩, e189, h⟩ := pm_bd_sp h
          dsimp only at h
          refine cv4 q240_41 (v := .int (pm_bi ov186)) (μ1 := (I187, J188, P, pm_T0, e)) (d222 hw e189) rfl ?_
          refine r_ifne (t := 49) c240_44 rfl (fun h190 => ?_) (fun h190 => ?_)
          · rw [if_pos (pm_bt h190)] at h
            refine al0 c240_49 ?_
            refine il2 c240_50 ?_
            obtain ⟨⟨ov191, I192, J193⟩, e194, h⟩ := pm_bd_sp h
            dsimp only at h
            refine cz2 q240_51 (μ1 := (I192, J193, P, pm_T0, e)) (d223 hw e194) rfl ?_
            refine al0 c240_54 ?_
            refine r_ic c240_55 kI0 ?_
            refine w_pi p240_56 (by first | rfl | assumption) rfl ?_
            rw [pm_lt_eq] at h
            generalize pm_w I192 127 27 0 = I195 at h ⊢
            refine al0 c240_59 ?_
            obtain ⟨⟨ov196, I197, J198⟩, e199, h⟩ := pm_bd_sp h
            dsimp only at h
            refine cz1 q240_60 (μ1 := (I197, J198, P, pm_T0, e)) (d242 hw e199) rfl ?_
            refine al0 c240_63 ?_
            refine cv1 q240_64 (d224 hw rfl) rfl ?_
            refine r_ifeq (t := 86) c240_67 rfl (fun h200 => ?_) (fun h200 => ?_)
            · rw [if_neg (pm_bf h200)] at h
              refine al0 c240_86 ?_
              refine r_ic c240_87 kI1 ?_
              obtain ⟨⟨ov201, I202, J203⟩, e204, h⟩ := pm_bd_sp h
              dsimp only at h
              refine cv2 q240_88 (v := .int ov201) (μ1 := (I202, J203, P, pm_T0, e)) (d239 hw e204) rfl ?_
              refine is3 c240_91 rfl ?_
              refine al0 c240_92 ?_
              refine r_gi g240_93 (by first | rfl | assumption) rfl ?_
              refine r_ic c240_96 kIm1 ?_
              refine r_iceq (t := 102) c240_97 rfl (fun h205 => ?_) (fun h205 => ?_)
              · rw [if_pos h205] at h
                refine al0 c240_102 ?_
                refine r_gr g240_103 rfl rfl (hp _ _ _ rfl) ?_
                refine il1 c240_106 ?_
                refine al0 c240_107 ?_
                refine r_gi g240_108 (by first | rfl | assumption) rfl ?_
                obtain ⟨gd206, h⟩ := pm_gd_sp h
                refine w_ist c240_111 (by first | rfl | assumption) gd206 ?_
                rw [pm_lt_eq] at h
                generalize pm_w I202 138 (x1).toNatClampNeg (I202 127 27) = I207 at h ⊢
                refine r_ic c240_112 kI0 ?_
                refine is4 c240_113 rfl ?_
                exact d240_115 hw pm_FU h
              · rw [if_neg h205] at h
                refine il3 c240_100 ?_
                cases h
                exact r_ri c240_101 rt240 rfl rfl
            · rw [if_pos (pm_bt h200)] at h
              refine al0 c240_70 ?_
              obtain ⟨⟨ov208, I209, J210⟩, e211, h⟩ := pm_bd_sp h
              dsimp only at h
              refine cv1 q240_71 (v := .int (pm_bi ov208)) (μ1 := (I209, J210, P, pm_T0, e)) (d225 hw e211) rfl ?_
              refine r_ifeq (t := 86) c240_74 rfl (fun h212 => ?_) (fun h212 => ?_)
              · rw [if_neg (pm_bf h212)] at h
                refine al0 c240_86 ?_
                refine r_ic c240_87 kI1 ?_
                obtain ⟨⟨ov213, I214, J215⟩, e216, h⟩ := pm_bd_sp h
                dsimp only at h
                refine cv2 q240_88 (v := .int ov213) (μ1 := (I214, J215, P, pm_T0, e)) (d239 hw e216) rfl ?_
                refine is3 c240_91 rfl ?_
                refine al0 c240_92 ?_
                refine r_gi g240_93 (by first | rfl | assumption) rfl ?_
                refine r_ic c240_96 kIm1 ?_
                refine r_iceq (t := 102) c240_97 rfl (fun h217 => ?_) (fun h217 => ?_)
                · rw [if_pos h217] at h
                  refine al0 c240_102 ?_
                  refine r_gr g240_103 rfl rfl (hp _ _ _ rfl) ?_
                  refine il1 c240_106 ?_
                  refine al0 c240_107 ?_
                  refine r_gi g240_108 (by first | rfl | assumption) rfl ?_
                  obtain ⟨gd218, h⟩ := pm_gd_sp h
                  refine w_ist c240_111 (by first | rfl | assumption) gd218 ?_
                  rw [pm_lt_eq] at h
                  generalize pm_w I214 138 (x1).toNatClampNeg (I214 127 27) = I219 at h ⊢
                  refine r_ic c240_112 kI0 ?_
                  refine is4 c240_113 rfl ?_
                  exact d240_115 hw pm_FU h
                · rw [if_neg h217] at h
                  refine il3 c240_100 ?_
                  cases h
                  exact r_ri c240_101 rt240 rfl rfl
              · rw [if_pos (pm_bt h212)] at h
                refine al0 c240_77 ?_
                refine r_ic c240_78 kI1 ?_
                refine al0 c240_79 ?_
                refine r_gi g240_80 (by first | rfl | assumption) rfl ?_
                obtain ⟨⟨ov220, I221, J222⟩, e223, h⟩ := pm_bd_sp h
                dsimp only at h
                refine cz3 q240_83 (μ1 := (I221, J222, P, pm_T0, e)) (d232 hw e223) rfl ?_
                refine al0 c240_86 ?_
                refine r_ic c240_87 kI1 ?_
                obtain ⟨⟨ov224, I225, J226⟩, e227, h⟩ := pm_bd_sp h
                dsimp only at h
                refine cv2 q240_88 (v := .int ov224) (μ1 := (I225, J226, P, pm_T0, e)) (d239 hw e227) rfl ?_
                refine is3 c240_91 rfl ?_
                refine al0 c240_92 ?_
                refine r_gi g240_93 (by first | rfl | assumption) rfl ?_
                refine r_ic c240_96 kIm1 ?_
                refine r_iceq (t := 102) c240_97 rfl (fun h228 => ?_) (fun h228 => ?_)
                · rw [if_pos h228] at h
                  refine al0 c240_102 ?_
                  refine r_gr g240_103 rfl rfl (hp _ _ _ rfl) ?_
                  refine il1 c240_106 ?_
                  refine al0 c240_107 ?_
                  refine r_gi g240_108 (by first | rfl | assumption) rfl ?_
                  obtain ⟨gd229, h⟩ := pm_gd_sp h
                  refine w_ist c240_111 (by first | rfl | assumption) gd229 ?_
                  rw [pm_lt_eq] at h
                  generalize pm_w I225 138 (x1).toNatClampNeg (I225 127 27) = I230 at h ⊢
                  refine r_ic c240_112 kI0 ?_
                  refine is4 c240_113 rfl ?_
                  exact d240_115 hw pm_FU h
                · rw [if_neg h228] at h
                  refine il3 c240_100 ?_
                  cases h
                  exact r_ri c240_101 rt240 rfl rfl
          · rw [if_neg (pm_bf h190)] at h
            refine r_ic c240_47 kI0 ?_
            cases h
            exact r_ri c240_48 rt240 rfl rfl
def f251 (x1 : Int32) (x2 : Int32) (x3 : Int32) (I : Nat → Nat → Int32) (J : Nat → Nat → Int64) : Option (Unit × (Nat → Nat → Int32) × (Nat → Nat → Int64)) := (if (v224  I) = true then pm_gd (pm_in (I 127 31) 150) (pm_lt (pm_w I 141 (I 127 31).toNatClampNeg x1) (fun I3 => pm_gd (pm_in ((I3 127 31) + 1) 150) (pm_lt (pm_w I3 141 ((I3 127 31) + 1).toNatClampNeg x2) (fun I5 => pm_gd (pm_in ((I5 127 31) + 2) 150) (pm_lt (pm_w I5 141 ((I5 127 31) + 2).toNatClampNeg x3) (fun I7 => pm_lt (pm_w I7 127 31 ((I7 127 31) + 3)) (fun I8 => some ((), I8, J)))))))) else some ((), I, J))
theorem d251 {X : (Nat → Int32) × Nat} {d : Nat} {I : Nat → Nat → Int32} {J : Nat → Nat → Int64} {P : Nat → Nat → Value} {e r k r2 k2 : Nat} {x1 : Int32} {x2 : Int32} {x3 : Int32} {q : Unit × (Nat → Nat → Int32) × (Nat → Nat → Int64)} (hw : pm_W P r k r2 k2)  (h : f251 x1 x2 x3 I J = some q) : pm_Fn X (d + 1) 251 1 [.ref 127, .int x1, .int x2, .int x3] (I, J, P, pm_T0, e) (.inl none) (q.2.1, q.2.2, P, pm_T0, e) := by
  obtain ⟨hp, hw1, hw2, hw3, hw4, hw5, hw6, hw7, hw8, hw9, hw10, hw11⟩ := id hw
  have hwa := hw5.1
  have hwb := hw6.1
  have hwc := hw7.1
  have hwd := hw8.1
  unfold f251 at h
  refine fn_v rc251 (c := 12) (nf := 59) (by first | rfl | assumption) ml251 rfl rfl rfl rfl ?_
  refine al0 c251_0 ?_
  refine cv1 q251_1 (d224 hw rfl) rfl ?_
  refine r_ifne (t := 8) c251_4 rfl (fun h1 => ?_) (fun h1 => ?_)
  · rw [if_pos (pm_bt h1)] at h
    refine al0 c251_8 ?_
    refine r_gr g251_9 rfl rfl (hp _ _ _ rfl) ?_
    refine al0 c251_12 ?_
    refine r_gi g251_13 (by first | rfl | assumption) rfl ?_
    refine il1 c251_16 ?_
    obtain ⟨gd2, h⟩ := pm_gd_sp h
    refine w_ist c251_17 (by first | rfl | assumption) gd2 ?_
    rw [pm_lt_eq] at h
    generalize pm_w I 141 (I 127 31).toNatClampNeg x1 = I3 at h ⊢
    refine al0 c251_18 ?_
    refine r_gr g251_19 rfl rfl (hp _ _ _ rfl) ?_
    refine al0 c251_22 ?_
    refine r_gi g251_23 (by first | rfl | assumption) rfl ?_
    refine r_ic c251_26 kI1 ?_
    refine r_iadd c251_27 ?_
    refine il2 c251_28 ?_
    obtain ⟨gd4, h⟩ := pm_gd_sp h
    refine w_ist c251_29 (by first | rfl | assumption) gd4 ?_
    rw [pm_lt_eq] at h
    generalize pm_w I3 141 ((I3 127 31) + 1).toNatClampNeg x2 = I5 at h ⊢
    refine al0 c251_30 ?_
    refine r_gr g251_31 rfl rfl (hp _ _ _ rfl) ?_
    refine al0 c251_34 ?_
    refine r_gi g251_35 (by first | rfl | assumption) rfl ?_
    refine r_ic c251_38 kI2 ?_
    refine r_iadd c251_39 ?_
    refine il3 c251_40 ?_
    obtain ⟨gd6, h⟩ := pm_gd_sp h
    refine w_ist c251_41 (by first | rfl | assumption) gd6 ?_
    rw [pm_lt_eq] at h
    generalize pm_w I5 141 ((I5 127 31) + 2).toNatClampNeg x3 = I7 at h ⊢
    refine al0 c251_42 ?_
    refine r_dpr c251_43 ?_
    refine r_gi g251_44 (by first | rfl | assumption) rfl ?_
    refine r_ic c251_47 kI3 ?_
    refine r_iadd c251_48 ?_
    refine w_pi p251_49 (by first | rfl | assumption) rfl ?_
    rw [pm_lt_eq] at h
    generalize pm_w I7 127 31 ((I7 127 31) + 3) = I8 at h ⊢
    cases h
    exact r_rv c251_52 rt251 rfl
  · rw [if_neg (pm_bf h1)] at h
    cases h
    exact r_rv c251_7 rt251 rfl
def f252  (I : Nat → Nat → Int32) (J : Nat → Nat → Int64) : Option (Int32 × (Nat → Nat → Int32) × (Nat → Nat → Int64)) := (f235 0 ((I 127 18) - 1) I J).bind (fun (ov1, I2, J3) => some (ov1, I2, J3))
theorem d252 {X : (Nat → Int32) × Nat} {d : Nat} {I : Nat → Nat → Int32} {J : Nat → Nat → Int64} {P : Nat → Nat → Value} {e r k r2 k2 : Nat}  {q : Int32 × (Nat → Nat → Int32) × (Nat → Nat → Int64)} (hw : pm_W P r k r2 k2)  (h : f252  I J = some q) : pm_Fn X (d + 2) 252 1 [.ref 127] (I, J, P, pm_T0, e) (.inl (some (.int q.1))) (q.2.1, q.2.2, P, pm_T0, e) := by
  obtain ⟨hp, hw1, hw2, hw3, hw4, hw5, hw6, hw7, hw8, hw9, hw10, hw11⟩ := id hw
  have hwa := hw5.1
  have hwb := hw6.1
  have hwc := hw7.1
  have hwd := hw8.1
  unfold f252 at h
  refine fn_v rc252 (c := 12) (nf := 59) (by first | rfl | assumption) ml252 rfl rfl rfl rfl ?_
  refine al0 c252_0 ?_
  refine r_ic c252_1 kI0 ?_
  refine al0 c252_2 ?_
  refine r_gi g252_3 (by first | rfl | assumption) rfl ?_
  refine r_ic c252_6 kI1 ?_
  refine r_isub c252_7 ?_
  obtain ⟨⟨ov1, I2, J3⟩, e4, h⟩ := pm_bd_sp h
  dsimp only at h
  refine cv3 q252_8 (v := .int ov1) (μ1 := (I2, J3, P, pm_T0, e)) (d235 hw e4) rfl ?_
  cases h
  exact r_ri c252_11 rt252 rfl rfl
def g250  : Nat → Nat → Nat → Int32 → (Nat → Nat → Int32) → (Nat → Nat → Int64) → Option (Unit × (Nat → Nat → Int32) × (Nat → Nat → Int64))
  | 0, _, _, _, _, _ => none
  | _ + 1, 0, _, _, _, _ => none
  | fu + 1, dep + 1, 0, _, I, J => (f229  I J).bind (fun (ov1, I2, J3) => (f231 32 I2 J3).bind (fun (ov5, I6, J7) => (if ov1 = ov5 then (f233  I6 J7).bind (fun (ov10, I11, J12) => (f231 32 I11 J12).bind (fun (ov14, I15, J16) => (if ov1 = ov14 then (f251 0 0 0 I15 J16).bind (fun (ov27, I28, J29) => (f238 59 I28 J29).bind (fun (ov31, I32, J33) => some ((), I32, J33))) else (f251 7 0 0 I15 J16).bind (fun (ov19, I20, J21) => (f238 59 I20 J21).bind (fun (ov23, I24, J25) => some ((), I24, J25)))))) else (f231 30 I6 J7).bind (fun (ov35, I36, J37) => (if ov1 = ov35 then (f233  I36 J37).bind (fun (ov407, I408, J409) => (f231 32 I408 J409).bind (fun (ov411, I412, J413) => (if ov1 = ov411 then (f251 0 0 0 I412 J413).bind (fun (ov424, I425, J426) => (f238 59 I425 J426).bind (fun (ov428, I429, J430) => some ((), I429, J430))) else (f251 7 0 0 I412 J413).bind (fun (ov416, I417, J418) => (f238 59 I417 J418).bind (fun (ov420, I421, J422) => some ((), I421, J422)))))) else (f231 34 I36 J37).bind (fun (ov40, I41, J42) => (if ov1 = ov40 then (f233  I41 J42).bind (fun (ov387, I388, J389) => (f252  I388 J389).bind (fun (ov391, I392, J393) => (f235 0 ((I392 127 19) - 1) I392 J393).bind (fun (ov395, I396, J397) => (f251 1 ov391 ov395 I396 J397).bind (fun (ov399, I400, J401) => (f238 59 I400 J401).bind (fun (ov403, I404, J405) => some ((), I404, J405)))))) else (f231 36 I41 J42).bind (fun (ov45, I46, J47) => (if ov1 = ov45 then (f233  I46 J47).bind (fun (ov367, I368, J369) => (f252  I368 J369).bind (fun (ov371, I372, J373) => (f235 1 24 I372 J373).bind (fun (ov375, I376, J377) => (f251 2 ov371 ov375 I376 J377).bind (fun (ov379, I380, J381) => (f238 59 I380 J381).bind (fun (ov383, I384, J385) => some ((), I384, J385)))))) else (f231 38 I46 J47).bind (fun (ov50, I51, J52) => (if ov1 = ov50 then (f233  I51 J52).bind (fun (ov55, I56, J57) => (f231 38 I56 J57).bind (fun (ov59, I60, J61) => (if ov1 = ov59 then (f252  I60 J61).bind (fun (ov110, I111, J112) => (f251 3 ov110 0 I111 J112).bind (fun (ov114, I115, J116) => (f238 59 I115 J116).bind (fun (ov118, I119, J120) => some ((), I119, J120)))) else (f231 40 I60 J61).bind (fun (ov64, I65, J66) => (if ov1 = ov64 then (f252  I65 J66).bind (fun (ov98, I99, J100) => (f251 4 ov98 0 I99 J100).bind (fun (ov102, I103, J104) => (f238 59 I103 J104).bind (fun (ov106, I107, J108) => some ((), I107, J108)))) else (f231 42 I65 J66).bind (fun (ov69, I70, J71) => (if ov1 = ov69 then (f252  I70 J71).bind (fun (ov86, I87, J88) => (f251 5 ov86 0 I87 J88).bind (fun (ov90, I91, J92) => (f238 59 I91 J92).bind (fun (ov94, I95, J96) => some ((), I95, J96)))) else (f252  I70 J71).bind (fun (ov74, I75, J76) => (f251 6 ov74 0 I75 J76).bind (fun (ov78, I79, J80) => (f238 59 I79 J80).bind (fun (ov82, I83, J84) => some ((), I83, J84))))))))))) else (f231 40 I51 J52).bind (fun (ov122, I123, J124) => (if ov1 = ov122 then (f233  I123 J124).bind (fun (ov127, I128, J129) => (f231 38 I128 J129).bind (fun (ov131, I132, J133) => (if ov1 = ov131 then (f252  I132 J133).bind (fun (ov182, I183, J184) => (f251 3 ov182 0 I183 J184).bind (fun (ov186, I187, J188) => (f238 59 I187 J188).bind (fun (ov190, I191, J192) => some ((), I191, J192)))) else (f231 40 I132 J133).bind (fun (ov136, I137, J138) => (if ov1 = ov136 then (f252  I137 J138).bind (fun (ov170, I171, J172) => (f251 4 ov170 0 I171 J172).bind (fun (ov174, I175, J176) => (f238 59 I175 J176).bind (fun (ov178, I179, J180) => some ((), I179, J180)))) else (f231 42 I137 J138).bind (fun (ov141, I142, J143) => (if ov1 = ov141 then (f252  I142 J143).bind (fun (ov158, I159, J160) => (f251 5 ov158 0 I159 J160).bind (fun (ov162, I163, J164) => (f238 59 I163 J164).bind (fun (ov166, I167, J168) => some ((), I167, J168)))) else (f252  I142 J143).bind (fun (ov146, I147, J148) => (f251 6 ov146 0 I147 J148).bind (fun (ov150, I151, J152) => (f238 59 I151 J152).bind (fun (ov154, I155, J156) => some ((), I155, J156))))))))))) else (f231 42 I123 J124).bind (fun (ov194, I195, J196) => (if ov1 = ov194 then (f233  I195 J196).bind (fun (ov199, I200, J201) => (f231 38 I200 J201).bind (fun (ov203, I204, J205) => (if ov1 = ov203 then (f252  I204 J205).bind (fun (ov254, I255, J256) => (f251 3 ov254 0 I255 J256).bind (fun (ov258, I259, J260) => (f238 59 I259 J260).bind (fun (ov262, I263, J264) => some ((), I263, J264)))) else (f231 40 I204 J205).bind (fun (ov208, I209, J210) => (if ov1 = ov208 then (f252  I209 J210).bind (fun (ov242, I243, J244) => (f251 4 ov242 0 I243 J244).bind (fun (ov246, I247, J248) => (f238 59 I247 J248).bind (fun (ov250, I251, J252) => some ((), I251, J252)))) else (f231 42 I209 J210).bind (fun (ov213, I214, J215) => (if ov1 = ov213 then (f252  I214 J215).bind (fun (ov230, I231, J232) => (f251 5 ov230 0 I231 J232).bind (fun (ov234, I235, J236) => (f238 59 I235 J236).bind (fun (ov238, I239, J240) => some ((), I239, J240)))) else (f252  I214 J215).bind (fun (ov218, I219, J220) => (f251 6 ov218 0 I219 J220).bind (fun (ov222, I223, J224) => (f238 59 I223 J224).bind (fun (ov226, I227, J228) => some ((), I227, J228))))))))))) else (f231 44 I195 J196).bind (fun (ov266, I267, J268) => (if ov1 = ov266 then (f233  I267 J268).bind (fun (ov300, I301, J302) => (f231 38 I301 J302).bind (fun (ov304, I305, J306) => (if ov1 = ov304 then (f252  I305 J306).bind (fun (ov355, I356, J357) => (f251 3 ov355 0 I356 J357).bind (fun (ov359, I360, J361) => (f238 59 I360 J361).bind (fun (ov363, I364, J365) => some ((), I364, J365)))) else (f231 40 I305 J306).bind (fun (ov309, I310, J311) => (if ov1 = ov309 then (f252  I310 J311).bind (fun (ov343, I344, J345) => (f251 4 ov343 0 I344 J345).bind (fun (ov347, I348, J349) => (f238 59 I348 J349).bind (fun (ov351, I352, J353) => some ((), I352, J353)))) else (f231 42 I310 J311).bind (fun (ov314, I315, J316) => (if ov1 = ov314 then (f252  I315 J316).bind (fun (ov331, I332, J333) => (f251 5 ov331 0 I332 J333).bind (fun (ov335, I336, J337) => (f238 59 I336 J337).bind (fun (ov339, I340, J341) => some ((), I340, J341)))) else (f252  I315 J316).bind (fun (ov319, I320, J321) => (f251 6 ov319 0 I320 J321).bind (fun (ov323, I324, J325) => (f238 59 I324 J325).bind (fun (ov327, I328, J329) => some ((), I328, J329))))))))))) else (f231 46 I267 J268).bind (fun (ov271, I272, J273) => (if ov1 = ov271 then (f245 5 I272 J273).bind (fun (ov284, I285, J286) => (f235 0 60 I285 J286).bind (fun (ov288, I289, J290) => (f238 91 I289 J290).bind (fun (ov292, I293, J294) => (f251 8 ov288 0 I293 J294).bind (fun (ov296, I297, J298) => g250 fu (dep + 1) 1 (I293 127 31) I297 J298)))) else (f232 1 (I272 127 4) I272 J273).bind (fun (ov276, I277, J278) => (f238 59 I277 J278).bind (fun (ov280, I281, J282) => some ((), I281, J282))))))))))))))))))))))
  | fu + 1, dep + 1, _ + 1, y3, I, J => (if (v224  I) = true then (f226  I J).bind (fun (ov18, I19, J20) => (if ov18 = 93 then (f238 93 I19 J20).bind (fun (ov23, I24, J25) => pm_lt (pm_w I24 127 7 ((I24 127 7) - 1)) (fun I27 => (if (v224  I27) = true then pm_gd (pm_in (y3 + 2) 150) (pm_lt (pm_w I27 141 (y3 + 2).toNatClampNeg (I27 127 31)) (fun I34 => (f238 59 I34 J25).bind (fun (ov35, I36, J37) => some ((), I36, J37)))) else (f238 59 I27 J25).bind (fun (ov29, I30, J31) => some ((), I30, J31))))) else (g250 fu dep 0 0 I19 J20).bind (fun (ov39, I40, J41) => g250 fu (dep + 1) 1 y3 I40 J41))) else (f238 93 I J).bind (fun (ov2, I3, J4) => pm_lt (pm_w I3 127 7 ((I3 127 7) - 1)) (fun I6 => (if (v224  I6) = true then pm_gd (pm_in (y3 + 2) 150) (pm_lt (pm_w I6 141 (y3 + 2).toNatClampNeg (I6 127 31)) (fun I13 => (f238 59 I13 J4).bind (fun (ov14, I15, J16) => some ((), I15, J16)))) else (f238 59 I6 J4).bind (fun (ov8, I9, J10) => some ((), I9, J10))))))
theorem dg250 {X : (Nat → Int32) × Nat} {d : Nat} {P : Nat → Nat → Value} {e r k r2 k2 : Nat}  (hw : pm_W P r k r2 k2)  : ∀ fu dep : Nat, (∀ {I : Nat → Nat → Int32} {J : Nat → Nat → Int64} {q : Unit × (Nat → Nat → Int32) × (Nat → Nat → Int64)} (h : g250 fu dep 0 0 I J = some q), pm_Fn X (d + dep + 6) 250 1 [.ref 127] (I, J, P, pm_T0, e) (.inl none) (q.2.1, q.2.2, P, pm_T0, e)) ∧ (∀ {y3 : Int32} {I : Nat → Nat → Int32} {J : Nat → Nat → Int64} {q : Unit × (Nat → Nat → Int32) × (Nat → Nat → Int64)} {z1 : Value} {z2 : Value} (h : g250 fu dep 1 y3 I J = some q), pm_Fx X (d + dep + 6) 250 270 [.ref 127, z1, z2, .int y3] [] (I, J, P, pm_T0, e) (.inl none) (q.2.1, q.2.2, P, pm_T0, e)) := by
  obtain ⟨hp, hw1, hw2, hw3, hw4, hw5, hw6, hw7, hw8, hw9, hw10, hw11⟩ := id hw
  have hwa := hw5.1
  have hwb := hw6.1
  have hwc := hw7.1
  have hwd := hw8.1
  intro fu
  induction fu with
  | zero => exact fun dep => ⟨(by intro I J q h; cases h), (by intro y3 I J q z1 z2 h; cases h)⟩
  | succ fu ih =>
    intro dep
    cases dep with
    | zero => exact ⟨(by intro I J q h; rw [g250] at h; cases h), (by intro y3 I J q z1 z2 h; rw [g250] at h; cases h)⟩
    | succ dep =>
      have hd : d + (dep + 1) + 6 = d + dep + 6 + 1 := by omega
      refine ⟨?_, ?_⟩
      · intro I J q h
        rw [g250] at h
        rw [hd]
        refine fn_v rc250 (c := 12) (nf := 59) (by first | rfl | assumption) ml250 rfl rfl rfl rfl ?_
        refine al0 c250_0 ?_
        obtain ⟨⟨ov1, I2, J3⟩, e4, h⟩ := pm_bd_sp h
        dsimp only at h
        refine cv1 q250_1 (v := .int ov1) (μ1 := (I2, J3, P, pm_T0, e)) (d229 hw e4) rfl ?_
        refine is1 c250_4 rfl ?_
        refine il1 c250_5 ?_
        refine r_ks v250_6 ?_
        obtain ⟨⟨ov5, I6, J7⟩, e8, h⟩ := pm_bd_sp h
        dsimp only at h
        refine cv1 q250_9 (v := .int ov5) (μ1 := (I6, J7, P, pm_T0, e)) (d231 hw (by first | rfl | assumption | decide) e8) rfl ?_
        refine r_iceq (t := 25) c250_12 rfl (fun h9 => ?_) (fun h9 => ?_)
        · rw [if_pos h9] at h
          refine al0 c250_25 ?_
          obtain ⟨⟨ov10, I11, J12⟩, e13, h⟩ := pm_bd_sp h
          dsimp only at h
          refine cz1 q250_26 (μ1 := (I11, J12, P, pm_T0, e)) (d233 hw e13) rfl ?_
          refine al0 c250_29 ?_
          refine il1 c250_30 ?_
          refine r_ks v250_31 ?_
          obtain ⟨⟨ov14, I15, J16⟩, e17, h⟩ := pm_bd_sp h
          dsimp only at h
          refine cv1 q250_34 (v := .int ov14) (μ1 := (I15, J16, P, pm_T0, e)) (d231 hw (by first | rfl | assumption | decide) e17) rfl ?_
          refine r_icne (t := 44) c250_37 rfl (fun h18 => ?_) (fun h18 => ?_)
          · rw [if_neg h18] at h
            refine r_bi c250_44 kB7 ?_
            refine r_ic c250_46 kI0 ?_
            refine r_ic c250_47 kI0 ?_
            obtain ⟨⟨ov19, I20, J21⟩, e22, h⟩ := pm_bd_sp h
            dsimp only at h
            refine cz4 q250_48 (μ1 := (I20, J21, P, pm_T0, e)) (d251 hw e22) rfl ?_
            refine r_go (t := 340) c250_51 rfl ?_
            refine al0 c250_340 ?_
            refine r_bi c250_341 kB59 ?_
            obtain ⟨⟨ov23, I24, J25⟩, e26, h⟩ := pm_bd_sp h
            dsimp only at h
            refine cz2 q250_343 (μ1 := (I24, J25, P, pm_T0, e)) (d238 hw e26) rfl ?_
            cases h
            exact r_rv c250_346 rt250 rfl
          · rw [if_pos h18] at h
            refine r_ic c250_40 kI0 ?_
            refine r_go (t := 46) c250_41 rfl ?_
            refine r_ic c250_46 kI0 ?_
            refine r_ic c250_47 kI0 ?_
            obtain ⟨⟨ov27, I28, J29⟩, e30, h⟩ := pm_bd_sp h
            dsimp only at h
            refine cz4 q250_48 (μ1 := (I28, J29, P, pm_T0, e)) (d251 hw e30) rfl ?_
            refine r_go (t := 340) c250_51 rfl ?_
            refine al0 c250_340 ?_
            refine r_bi c250_341 kB59 ?_
            obtain ⟨⟨ov31, I32, J33⟩, e34, h⟩ := pm_bd_sp h
            dsimp only at h
            refine cz2 q250_343 (μ1 := (I32, J33, P, pm_T0, e)) (d238 hw e34) rfl ?_
            cases h
            exact r_rv c250_346 rt250 rfl
        · rw [if_neg h9] at h
          refine il1 c250_15 ?_
          refine r_ks v250_16 ?_
          obtain ⟨⟨ov35, I36, J37⟩, e38, h⟩ := pm_bd_sp h
          dsimp only at h
          refine cv1 q250_19 (v := .int ov35) (μ1 := (I36, J37, P, pm_T0, e)) (d231 hw (by first | rfl | assumption | decide) e38) rfl ?_
          refine r_icne (t := 54) c250_22 rfl (fun h39 => ?_) (fun h39 => ?_)
          · rw [if_neg h39] at h
            refine il1 c250_54 ?_
            refine r_ks v250_55 ?_
            obtain ⟨⟨ov40, I41, J42⟩, e43, h⟩ := pm_bd_sp h
            dsimp only at h
            refine cv1 q250_58 (v := .int ov40) (μ1 := (I41, J42, P, pm_T0, e)) (d231 hw (by first | rfl | assumption | decide) e43) rfl ?_
            refine r_icne (t := 93) c250_61 rfl (fun h44 => ?_) (fun h44 => ?_)
            · rw [if_neg h44] at h
              refine il1 c250_93 ?_
              refine r_ks v250_94 ?_
              obtain ⟨⟨ov45, I46, J47⟩, e48, h⟩ := pm_bd_sp h
              dsimp only at h
              refine cv1 q250_97 (v := .int ov45) (μ1 := (I46, J47, P, pm_T0, e)) (d231 hw (by first | rfl | assumption | decide) e48) rfl ?_
              refine r_icne (t := 128) c250_100 rfl (fun h49 => ?_) (fun h49 => ?_)
              · rw [if_neg h49] at h
                refine il1 c250_128 ?_
                refine r_ks v250_129 ?_
                obtain ⟨⟨ov50, I51, J52⟩, e53, h⟩ := pm_bd_sp h
                dsimp only at h
                refine cv1 q250_132 (v := .int ov50) (μ1 := (I51, J52, P, pm_T0, e)) (d231 hw (by first | rfl | assumption | decide) e53) rfl ?_
                refine r_iceq (t := 168) c250_135 rfl (fun h54 => ?_) (fun h54 => ?_)
                · rw [if_pos h54] at h
                  refine al0 c250_168 ?_
                  obtain ⟨⟨ov55, I56, J57⟩, e58, h⟩ := pm_bd_sp h
                  dsimp only at h
                  refine cz1 q250_169 (μ1 := (I56, J57, P, pm_T0, e)) (d233 hw e58) rfl ?_
                  refine al0 c250_172 ?_
                  refine il1 c250_173 ?_
                  refine r_ks v250_174 ?_
                  obtain ⟨⟨ov59, I60, J61⟩, e62, h⟩ := pm_bd_sp h
                  dsimp only at h
                  refine cv1 q250_177 (v := .int ov59) (μ1 := (I60, J61, P, pm_T0, e)) (d231 hw (by first | rfl | assumption | decide) e62) rfl ?_
                  refine r_icne (t := 187) c250_180 rfl (fun h63 => ?_) (fun h63 => ?_)
                  · rw [if_neg h63] at h
                    refine il1 c250_187 ?_
                    refine r_ks v250_188 ?_
                    obtain ⟨⟨ov64, I65, J66⟩, e67, h⟩ := pm_bd_sp h
                    dsimp only at h
                    refine cv1 q250_191 (v := .int ov64) (μ1 := (I65, J66, P, pm_T0, e)) (d231 hw (by first | rfl | assumption | decide) e67) rfl ?_
                    refine r_icne (t := 201) c250_194 rfl (fun h68 => ?_) (fun h68 => ?_)
                    · rw [if_neg h68] at h
                      refine il1 c250_201 ?_
                      refine r_ks v250_202 ?_
                      obtain ⟨⟨ov69, I70, J71⟩, e72, h⟩ := pm_bd_sp h
                      dsimp only at h
                      refine cv1 q250_205 (v := .int ov69) (μ1 := (I70, J71, P, pm_T0, e)) (d231 hw (by first | rfl | assumption | decide) e72) rfl ?_
                      refine r_icne (t := 215) c250_208 rfl (fun h73 => ?_) (fun h73 => ?_)
                      · rw [if_neg h73] at h
                        refine r_bi c250_215 kB6 ?_
                        refine al0 c250_217 ?_
                        obtain ⟨⟨ov74, I75, J76⟩, e77, h⟩ := pm_bd_sp h
                        dsimp only at h
                        refine cv1 q250_218 (v := .int ov74) (μ1 := (I75, J76, P, pm_T0, e)) (d252 hw e77) rfl ?_
                        refine r_ic c250_221 kI0 ?_
                        obtain ⟨⟨ov78, I79, J80⟩, e81, h⟩ := pm_bd_sp h
                        dsimp only at h
                        refine cz4 q250_222 (μ1 := (I79, J80, P, pm_T0, e)) (d251 hw e81) rfl ?_
                        refine r_go (t := 340) c250_225 rfl ?_
                        refine al0 c250_340 ?_
                        refine r_bi c250_341 kB59 ?_
                        obtain ⟨⟨ov82, I83, J84⟩, e85, h⟩ := pm_bd_sp h
                        dsimp only at h
                        refine cz2 q250_343 (μ1 := (I83, J84, P, pm_T0, e)) (d238 hw e85) rfl ?_
                        cases h
                        exact r_rv c250_346 rt250 rfl
                      · rw [if_pos h73] at h
                        refine r_ic c250_211 kI5 ?_
                        refine r_go (t := 217) c250_212 rfl ?_
                        refine al0 c250_217 ?_
                        obtain ⟨⟨ov86, I87, J88⟩, e89, h⟩ := pm_bd_sp h
                        dsimp only at h
                        refine cv1 q250_218 (v := .int ov86) (μ1 := (I87, J88, P, pm_T0, e)) (d252 hw e89) rfl ?_
                        refine r_ic c250_221 kI0 ?_
                        obtain ⟨⟨ov90, I91, J92⟩, e93, h⟩ := pm_bd_sp h
                        dsimp only at h
                        refine cz4 q250_222 (μ1 := (I91, J92, P, pm_T0, e)) (d251 hw e93) rfl ?_
                        refine r_go (t := 340) c250_225 rfl ?_
                        refine al0 c250_340 ?_
                        refine r_bi c250_341 kB59 ?_
                        obtain ⟨⟨ov94, I95, J96⟩, e97, h⟩ := pm_bd_sp h
                        dsimp only at h
                        refine cz2 q250_343 (μ1 := (I95, J96, P, pm_T0, e)) (d238 hw e97) rfl ?_
                        cases h
                        exact r_rv c250_346 rt250 rfl
                    · rw [if_pos h68] at h
                      refine r_ic c250_197 kI4 ?_
                      refine r_go (t := 217) c250_198 rfl ?_
                      refine al0 c250_217 ?_
                      obtain ⟨⟨ov98, I99, J100⟩, e101, h⟩ := pm_bd_sp h
                      dsimp only at h
                      refine cv1 q250_218 (v := .int ov98) (μ1 := (I99, J100, P, pm_T0, e)) (d252 hw e101) rfl ?_
                      refine r_ic c250_221 kI0 ?_
                      obtain ⟨⟨ov102, I103, J104⟩, e105, h⟩ := pm_bd_sp h
                      dsimp only at h
                      refine cz4 q250_222 (μ1 := (I103, J104, P, pm_T0, e)) (d251 hw e105) rfl ?_
                      refine r_go (t := 340) c250_225 rfl ?_
                      refine al0 c250_340 ?_
                      refine r_bi c250_341 kB59 ?_
                      obtain ⟨⟨ov106, I107, J108⟩, e109, h⟩ := pm_bd_sp h
                      dsimp only at h
                      refine cz2 q250_343 (μ1 := (I107, J108, P, pm_T0, e)) (d238 hw e109) rfl ?_
                      cases h
                      exact r_rv c250_346 rt250 rfl
                  · rw [if_pos h63] at h
                    refine r_ic c250_183 kI3 ?_
                    refine r_go (t := 217) c250_184 rfl ?_
                    refine al0 c250_217 ?_
                    obtain ⟨⟨ov110, I111, J112⟩, e113, h⟩ := pm_bd_sp h
                    dsimp only at h
                    refine cv1 q250_218 (v := .int ov110) (μ1 := (I111, J112, P, pm_T0, e)) (d252 hw e113) rfl ?_
                    refine r_ic c250_221 kI0 ?_
                    obtain ⟨⟨ov114, I115, J116⟩, e117, h⟩ := pm_bd_sp h
                    dsimp only at h
                    refine cz4 q250_222 (μ1 := (I115, J116, P, pm_T0, e)) (d251 hw e117) rfl ?_
                    refine r_go (t := 340) c250_225 rfl ?_
                    refine al0 c250_340 ?_
                    refine r_bi c250_341 kB59 ?_
                    obtain ⟨⟨ov118, I119, J120⟩, e121, h⟩ := pm_bd_sp h
                    dsimp only at h
                    refine cz2 q250_343 (μ1 := (I119, J120, P, pm_T0, e)) (d238 hw e121) rfl ?_
                    cases h
                    exact r_rv c250_346 rt250 rfl
                · rw [if_neg h54] at h
                  refine il1 c250_138 ?_
                  refine r_ks v250_139 ?_
                  obtain ⟨⟨ov122, I123, J124⟩, e125, h⟩ := pm_bd_sp h
                  dsimp only at h
                  refine cv1 q250_142 (v := .int ov122) (μ1 := (I123, J124, P, pm_T0, e)) (d231 hw (by first | rfl | assumption | decide) e125) rfl ?_
                  refine r_iceq (t := 168) c250_145 rfl (fun h126 => ?_) (fun h126 => ?_)
                  · rw [if_pos h126] at h
                    refine al0 c250_168 ?_
                    obtain ⟨⟨ov127, I128, J129⟩, e130, h⟩ := pm_bd_sp h
                    dsimp only at h
                    refine cz1 q250_169 (μ1 := (I128, J129, P, pm_T0, e)) (d233 hw e130) rfl ?_
                    refine al0 c250_172 ?_
                    refine il1 c250_173 ?_
                    refine r_ks v250_174 ?_
                    obtain ⟨⟨ov131, I132, J133⟩, e134, h⟩ := pm_bd_sp h
                    dsimp only at h
                    refine cv1 q250_177 (v := .int ov131) (μ1 := (I132, J133, P, pm_T0, e)) (d231 hw (by first | rfl | assumption | decide) e134) rfl ?_
                    refine r_icne (t := 187) c250_180 rfl (fun h135 => ?_) (fun h135 => ?_)
                    · rw [if_neg h135] at h
                      refine il1 c250_187 ?_
                      refine r_ks v250_188 ?_
                      obtain ⟨⟨ov136, I137, J138⟩, e139, h⟩ := pm_bd_sp h
                      dsimp only at h
                      refine cv1 q250_191 (v := .int ov136) (μ1 := (I137, J138, P, pm_T0, e)) (d231 hw (by first | rfl | assumption | decide) e139) rfl ?_
                      refine r_icne (t := 201) c250_194 rfl (fun h140 => ?_) (fun h140 => ?_)
                      · rw [if_neg h140] at h
                        refine il1 c250_201 ?_
                        refine r_ks v250_202 ?_
                        obtain ⟨⟨ov141, I142, J143⟩, e144, h⟩ := pm_bd_sp h
                        dsimp only at h
                        refine cv1 q250_205 (v := .int ov141) (μ1 := (I142, J143, P, pm_T0, e)) (d231 hw (by first | rfl | assumption | decide) e144) rfl ?_
                        refine r_icne (t := 215) c250_208 rfl (fun h145 => ?_) (fun h145 => ?_)
                        · rw [if_neg h145] at h
                          refine r_bi c250_215 kB6 ?_
                          refine al0 c250_217 ?_
                          obtain ⟨⟨ov146, I147, J148⟩, e149, h⟩ := pm_bd_sp h
                          dsimp only at h
                          refine cv1 q250_218 (v := .int ov146) (μ1 := (I147, J148, P, pm_T0, e)) (d252 hw e149) rfl ?_
                          refine r_ic c250_221 kI0 ?_
                          obtain ⟨⟨ov150, I151, J152⟩, e153, h⟩ := pm_bd_sp h
                          dsimp only at h
                          refine cz4 q250_222 (μ1 := (I151, J152, P, pm_T0, e)) (d251 hw e153) rfl ?_
                          refine r_go (t := 340) c250_225 rfl ?_
                          refine al0 c250_340 ?_
                          refine r_bi c250_341 kB59 ?_
                          obtain ⟨⟨ov154, I155, J156⟩, e157, h⟩ := pm_bd_sp h
                          dsimp only at h
                          refine cz2 q250_343 (μ1 := (I155, J156, P, pm_T0, e)) (d238 hw e157) rfl ?_
                          cases h
                          exact r_rv c250_346 rt250 rfl
                        · rw [if_pos h145] at h
                          refine r_ic c250_211 kI5 ?_
                          refine r_go (t := 217) c250_212 rfl ?_
                          refine al0 c250_217 ?_
                          obtain ⟨⟨ov158, I159, J160⟩, e161, h⟩ := pm_bd_sp h
                          dsimp only at h
                          refine cv1 q250_218 (v := .int ov158) (μ1 := (I159, J160, P, pm_T0, e)) (d252 hw e161) rfl ?_
                          refine r_ic c250_221 kI0 ?_
                          obtain ⟨⟨ov162, I163, J164⟩, e165, h⟩ := pm_bd_sp h
                          dsimp only at h
                          refine cz4 q250_222 (μ1 := (I163, J164, P, pm_T0, e)) (d251 hw e165) rfl ?_
                          refine r_go (t := 340) c250_225 rfl ?_
                          refine al0 c250_340 ?_
                          refine r_bi c250_341 kB59 ?_
                          obtain ⟨⟨ov166, I167, J168⟩, e169, h⟩ := pm_bd_sp h
                          dsimp only at h
                          refine cz2 q250_343 (μ1 := (I167, J168, P, pm_T0, e)) (d238 hw e169) rfl ?_
                          cases h
                          exact r_rv c250_346 rt250 rfl
                      · rw [if_pos h140] at h
                        refine r_ic c250_197 kI4 ?_
                        refine r_go (t := 217) c250_198 rfl ?_
                        refine al0 c250_217 ?_
                        obtain ⟨⟨ov170, I171, J172⟩, e173, h⟩ := pm_bd_sp h
                        dsimp only at h
                        refine cv1 q250_218 (v := .int ov170) (μ1 := (I171, J172, P, pm_T0, e)) (d252 hw e173) rfl ?_
                        refine r_ic c250_221 kI0 ?_
                        obtain ⟨⟨ov174, I175, J176⟩, e177, h⟩ := pm_bd_sp h
                        dsimp only at h
                        refine cz4 q250_222 (μ1 := (I175, J176, P, pm_T0, e)) (d251 hw e177) rfl ?_
                        refine r_go (t := 340) c250_225 rfl ?_
                        refine al0 c250_340 ?_
                        refine r_bi c250_341 kB59 ?_
                        obtain ⟨⟨ov178, I179, J180⟩, e181, h⟩ := pm_bd_sp h
                        dsimp only at h
                        refine cz2 q250_343 (μ1 := (I179, J180, P, pm_T0, e)) (d238 hw e181) rfl ?_
                        cases h
                        exact r_rv c250_346 rt250 rfl
                    · rw [if_pos h135] at h
                      refine r_ic c250_183 kI3 ?_
                      refine r_go (t := 217) c250_184 rfl ?_
                      refine al0 c250_217 ?_
                      obtain ⟨⟨ov182, I183, J184⟩, e185, h⟩ := pm_bd_sp h
                      dsimp only at h
                      refine cv1 q250_218 (v := .int ov182) (μ1 := (I183, J184, P, pm_T0, e)) (d252 hw e185) rfl ?_
                      refine r_ic c250_221 kI0 ?_
                      obtain ⟨⟨ov186, I187, J188⟩, e189, h⟩ := pm_bd_sp h
                      dsimp only at h
                      refine cz4 q250_222 (μ1 := (I187, J188, P, pm_T0, e)) (d251 hw e189) rfl ?_
                      refine r_go (t := 340) c250_225 rfl ?_
                      refine al0 c250_340 ?_
                      refine r_bi c250_341 kB59 ?_
                      obtain ⟨⟨ov190, I191, J192⟩, e193, h⟩ := pm_bd_sp h
                      dsimp only at h
                      refine cz2 q250_343 (μ1 := (I191, J192, P, pm_T0, e)) (d238 hw e193) rfl ?_
                      cases h
                      exact r_rv c250_346 rt250 rfl
                  · rw [if_neg h126] at h
                    refine il1 c250_148 ?_
                    refine r_ks v250_149 ?_
                    obtain ⟨⟨ov194, I195, J196⟩, e197, h⟩ := pm_bd_sp h
                    dsimp only at h
                    refine cv1 q250_152 (v := .int ov194) (μ1 := (I195, J196, P, pm_T0, e)) (d231 hw (by first | rfl | assumption | decide) e197) rfl ?_
                    refine r_iceq (t := 168) c250_155 rfl (fun h198 => ?_) (fun h198 => ?_)
                    · rw [if_pos h198] at h
                      refine al0 c250_168 ?_
                      obtain ⟨⟨ov199, I200, J201⟩, e202, h⟩ := pm_bd_sp h
                      dsimp only at h
                      refine cz1 q250_169 (μ1 := (I200, J201, P, pm_T0, e)) (d233 hw e202) rfl ?_
                      refine al0 c250_172 ?_
                      refine il1 c250_173 ?_
                      refine r_ks v250_174 ?_
                      obtain ⟨⟨ov203, I204, J205⟩, e206, h⟩ := pm_bd_sp h
                      dsimp only at h
                      refine cv1 q250_177 (v := .int ov203) (μ1 := (I204, J205, P, pm_T0, e)) (d231 hw (by first | rfl | assumption | decide) e206) rfl ?_
                      refine r_icne (t := 187) c250_180 rfl (fun h207 => ?_) (fun h207 => ?_)
                      · rw [if_neg h207] at h
                        refine il1 c250_187 ?_
                        refine r_ks v250_188 ?_
                        obtain ⟨⟨ov208, I209, J210⟩, e211, h⟩ := pm_bd_sp h
                        dsimp only at h
                        refine cv1 q250_191 (v := .int ov208) (μ1 := (I209, J210, P, pm_T0, e)) (d231 hw (by first | rfl | assumption | decide) e211) rfl ?_
                        refine r_icne (t := 201) c250_194 rfl (fun h212 => ?_) (fun h212 => ?_)
                        · rw [if_neg h212] at h
                          refine il1 c250_201 ?_
                          refine r_ks v250_202 ?_
                          obtain ⟨⟨ov213, I214, J215⟩, e216, h⟩ := pm_bd_sp h
                          dsimp only at h
                          refine cv1 q250_205 (v := .int ov213) (μ1 := (I214, J215, P, pm_T0, e)) (d231 hw (by first | rfl | assumption | decide) e216) rfl ?_
                          refine r_icne (t := 215) c250_208 rfl (fun h217 => ?_) (fun h217 => ?_)
                          · rw [if_neg h217] at h
                            refine r_bi c250_215 kB6 ?_
                            refine al0 c250_217 ?_
                            obtain ⟨⟨ov218, I219, J220⟩, e221, h⟩ := pm_bd_sp h
                            dsimp only at h
                            refine cv1 q250_218 (v := .int ov218) (μ1 := (I219, J220, P, pm_T0, e)) (d252 hw e221) rfl ?_
                            refine r_ic c250_221 kI0 ?_
                            obtain ⟨⟨ov222, I223, J224⟩, e225, h⟩ := pm_bd_sp h
                            dsimp only at h
                            refine cz4 q250_222 (μ1 := (I223, J224, P, pm_T0, e)) (d251 hw e225) rfl ?_
                            refine r_go (t := 340) c250_225 rfl ?_
                            refine al0 c250_340 ?_
                            refine r_bi c250_341 kB59 ?_
                            obtain ⟨⟨ov226, I227, J228⟩, e229, h⟩ := pm_bd_sp h
                            dsimp only at h
                            refine cz2 q250_343 (μ1 := (I227, J228, P, pm_T0, e)) (d238 hw e229) rfl ?_
                            cases h
                            exact r_rv c250_346 rt250 rfl
                          · rw [if_pos h217] at h
                            refine r_ic c250_211 kI5 ?_
                            refine r_go (t := 217) c250_212 rfl ?_
                            refine al0 c250_217 ?_
                            obtain ⟨⟨ov230, I231, J232⟩, e233, h⟩ := pm_bd_sp h
                            dsimp only at h
                            refine cv1 q250_218 (v := .int ov230) (μ1 := (I231, J232, P, pm_T0, e)) (d252 hw e233) rfl ?_
                            refine r_ic c250_221 kI0 ?_
                            obtain ⟨⟨ov234, I235, J236⟩, e237, h⟩ := pm_bd_sp h
                            dsimp only at h
                            refine cz4 q250_222 (μ1 := (I235, J236, P, pm_T0, e)) (d251 hw e237) rfl ?_
                            refine r_go (t := 340) c250_225 rfl ?_
                            refine al0 c250_340 ?_
                            refine r_bi c250_341 kB59 ?_
                            obtain ⟨⟨ov238, I239, J240⟩, e241, h⟩ := pm_bd_sp h
                            dsimp only at h
                            refine cz2 q250_343 (μ1 := (I239, J240, P, pm_T0, e)) (d238 hw e241) rfl ?_
                            cases h
                            exact r_rv c250_346 rt250 rfl
                        · rw [if_pos h212] at h
                          refine r_ic c250_197 kI4 ?_
                          refine r_go (t := 217) c250_198 rfl ?_
                          refine al0 c250_217 ?_
                          obtain ⟨⟨ov242, I243, J244⟩, e245, h⟩ := pm_bd_sp h
                          dsimp only at h
                          refine cv1 q250_218 (v := .int ov242) (μ1 := (I243, J244, P, pm_T0, e)) (d252 hw e245) rfl ?_
                          refine r_ic c250_221 kI0 ?_
                          obtain ⟨⟨ov246, I247, J248⟩, e249, h⟩ := pm_bd_sp h
                          dsimp only at h
                          refine cz4 q250_222 (μ1 := (I247, J248, P, pm_T0, e)) (d251 hw e249) rfl ?_
                          refine r_go (t := 340) c250_225 rfl ?_
                          refine al0 c250_340 ?_
                          refine r_bi c250_341 kB59 ?_
                          obtain ⟨⟨ov250, I251, J252⟩, e253, h⟩ := pm_bd_sp h
                          dsimp only at h
                          refine cz2 q250_343 (μ1 := (I251, J252, P, pm_T0, e)) (d238 hw e253) rfl ?_
                          cases h
                          exact r_rv c250_346 rt250 rfl
                      · rw [if_pos h207] at h
                        refine r_ic c250_183 kI3 ?_
                        refine r_go (t := 217) c250_184 rfl ?_
                        refine al0 c250_217 ?_
                        obtain ⟨⟨ov254, I255, J256⟩, e257, h⟩ := pm_bd_sp h
                        dsimp only at h
                        refine cv1 q250_218 (v := .int ov254) (μ1 := (I255, J256, P, pm_T0, e)) (d252 hw e257) rfl ?_
                        refine r_ic c250_221 kI0 ?_
                        obtain ⟨⟨ov258, I259, J260⟩, e261, h⟩ := pm_bd_sp h
                        dsimp only at h
                        refine cz4 q250_222 (μ1 := (I259, J260, P, pm_T0, e)) (d251 hw e261) rfl ?_
                        refine r_go (t := 340) c250_225 rfl ?_
                        refine al0 c250_340 ?_
                        refine r_bi c250_341 kB59 ?_
                        obtain ⟨⟨ov262, I263, J264⟩, e265, h⟩ := pm_bd_sp h
                        dsimp only at h
                        refine cz2 q250_343 (μ1 := (I263, J264, P, pm_T0, e)) (d238 hw e265) rfl ?_
                        cases h
                        exact r_rv c250_346 rt250 rfl
                    · rw [if_neg h198] at h
                      refine il1 c250_158 ?_
                      refine r_ks v250_159 ?_
                      obtain ⟨⟨ov266, I267, J268⟩, e269, h⟩ := pm_bd_sp h
                      dsimp only at h
                      refine cv1 q250_162 (v := .int ov266) (μ1 := (I267, J268, P, pm_T0, e)) (d231 hw (by first | rfl | assumption | decide) e269) rfl ?_
                      refine r_icne (t := 228) c250_165 rfl (fun h270 => ?_) (fun h270 => ?_)
                      · rw [if_neg h270] at h
                        refine il1 c250_228 ?_
                        refine r_ks v250_229 ?_
                        obtain ⟨⟨ov271, I272, J273⟩, e274, h⟩ := pm_bd_sp h
                        dsimp only at h
                        refine cv1 q250_232 (v := .int ov271) (μ1 := (I272, J273, P, pm_T0, e)) (d231 hw (by first | rfl | assumption | decide) e274) rfl ?_
                        refine r_icne (t := 331) c250_235 rfl (fun h275 => ?_) (fun h275 => ?_)
                        · rw [if_neg h275] at h
                          refine al0 c250_331 ?_
                          refine r_ic c250_332 kI1 ?_
                          refine al0 c250_333 ?_
                          refine r_gi g250_334 (by first | rfl | assumption) rfl ?_
                          obtain ⟨⟨ov276, I277, J278⟩, e279, h⟩ := pm_bd_sp h
                          dsimp only at h
                          refine cz3 q250_337 (μ1 := (I277, J278, P, pm_T0, e)) (d232 hw e279) rfl ?_
                          refine al0 c250_340 ?_
                          refine r_bi c250_341 kB59 ?_
                          obtain ⟨⟨ov280, I281, J282⟩, e283, h⟩ := pm_bd_sp h
                          dsimp only at h
                          refine cz2 q250_343 (μ1 := (I281, J282, P, pm_T0, e)) (d238 hw e283) rfl ?_
                          cases h
                          exact r_rv c250_346 rt250 rfl
                        · rw [if_pos h275] at h
                          refine al0 c250_238 ?_
                          refine r_ic c250_239 kI5 ?_
                          obtain ⟨⟨ov284, I285, J286⟩, e287, h⟩ := pm_bd_sp h
                          dsimp only at h
                          refine cz2 q250_240 (μ1 := (I285, J286, P, pm_T0, e)) (d245 hw e287) rfl ?_
                          refine al0 c250_243 ?_
                          refine r_ic c250_244 kI0 ?_
                          refine r_bi c250_245 kB60 ?_
                          obtain ⟨⟨ov288, I289, J290⟩, e291, h⟩ := pm_bd_sp h
                          dsimp only at h
                          refine cv3 q250_247 (v := .int ov288) (μ1 := (I289, J290, P, pm_T0, e)) (d235 hw e291) rfl ?_
                          refine is2 c250_250 rfl ?_
                          refine al0 c250_251 ?_
                          refine r_bi c250_252 kB91 ?_
                          obtain ⟨⟨ov292, I293, J294⟩, e295, h⟩ := pm_bd_sp h
                          dsimp only at h
                          refine cz2 q250_254 (μ1 := (I293, J294, P, pm_T0, e)) (d238 hw e295) rfl ?_
                          refine al0 c250_257 ?_
                          refine r_gi g250_258 (by first | rfl | assumption) rfl ?_
                          refine is3 c250_261 rfl ?_
                          refine al0 c250_262 ?_
                          refine r_bi c250_263 kB8 ?_
                          refine il2 c250_265 ?_
                          refine r_ic c250_266 kI0 ?_
                          obtain ⟨⟨ov296, I297, J298⟩, e299, h⟩ := pm_bd_sp h
                          dsimp only at h
                          refine cz4 q250_267 (μ1 := (I297, J298, P, pm_T0, e)) (d251 hw e299) rfl ?_
                          (rw [← hd]; exact (ih (dep + 1)).2 h)
                      · rw [if_pos h270] at h
                        refine al0 c250_168 ?_
                        obtain ⟨⟨ov300, I301, J302⟩, e303, h⟩ := pm_bd_sp h
                        dsimp only at h
                        refine cz1 q250_169 (μ1 := (I301, J302, P, pm_T0, e)) (d233 hw e303) rfl ?_
                        refine al0 c250_172 ?_
                        refine il1 c250_173 ?_
                        refine r_ks v250_174 ?_
                        obtain ⟨⟨ov304, I305, J306⟩, e307, h⟩ := pm_bd_sp h
                        dsimp only at h
                        refine cv1 q250_177 (v := .int ov304) (μ1 := (I305, J306, P, pm_T0, e)) (d231 hw (by first | rfl | assumption | decide) e307) rfl ?_
                        refine r_icne (t := 187) c250_180 rfl (fun h308 => ?_) (fun h308 => ?_)
                        · rw [if_neg h308] at h
                          refine il1 c250_187 ?_
                          refine r_ks v250_188 ?_
                          obtain ⟨⟨ov309, I310, J311⟩, e312, h⟩ := pm_bd_sp h
                          dsimp only at h
                          refine cv1 q250_191 (v := .int ov309) (μ1 := (I310, J311, P, pm_T0, e)) (d231 hw (by first | rfl | assumption | decide) e312) rfl ?_
                          refine r_icne (t := 201) c250_194 rfl (fun h313 => ?_) (fun h313 => ?_)
                          · rw [if_neg h313] at h
                            refine il1 c250_201 ?_
                            refine r_ks v250_202 ?_
                            obtain ⟨⟨ov314, I315, J316⟩, e317, h⟩ := pm_bd_sp h
                            dsimp only at h
                            refine cv1 q250_205 (v := .int ov314) (μ1 := (I315, J316, P, pm_T0, e)) (d231 hw (by first | rfl | assumption | decide) e317) rfl ?_
                            refine r_icne (t := 215) c250_208 rfl (fun h318 => ?_) (fun h318 => ?_)
                            · rw [if_neg h318] at h
                              refine r_bi c250_215 kB6 ?_
                              refine al0 c250_217 ?_
                              obtain ⟨⟨ov319, I320, J321⟩, e322, h⟩ := pm_bd_sp h
                              dsimp only at h
                              refine cv1 q250_218 (v := .int ov319) (μ1 := (I320, J321, P, pm_T0, e)) (d252 hw e322) rfl ?_
                              refine r_ic c250_221 kI0 ?_
                              obtain ⟨⟨ov323, I324, J325⟩, e326, h⟩ := pm_bd_sp h
                              dsimp only at h
                              refine cz4 q250_222 (μ1 := (I324, J325, P, pm_T0, e)) (d251 hw e326) rfl ?_
                              refine r_go (t := 340) c250_225 rfl ?_
                              refine al0 c250_340 ?_
                              refine r_bi c250_341 kB59 ?_
                              obtain ⟨⟨ov327, I328, J329⟩, e330, h⟩ := pm_bd_sp h
                              dsimp only at h
                              refine cz2 q250_343 (μ1 := (I328, J329, P, pm_T0, e)) (d238 hw e330) rfl ?_
                              cases h
                              exact r_rv c250_346 rt250 rfl
                            · rw [if_pos h318] at h
                              refine r_ic c250_211 kI5 ?_
                              refine r_go (t := 217) c250_212 rfl ?_
                              refine al0 c250_217 ?_
                              obtain ⟨⟨ov331, I332, J333⟩, e334, h⟩ := pm_bd_sp h
                              dsimp only at h
                              refine cv1 q250_218 (v := .int ov331) (μ1 := (I332, J333, P, pm_T0, e)) (d252 hw e334) rfl ?_
                              refine r_ic c250_221 kI0 ?_
                              obtain ⟨⟨ov335, I336, J337⟩, e338, h⟩ := pm_bd_sp h
                              dsimp only at h
                              refine cz4 q250_222 (μ1 := (I336, J337, P, pm_T0, e)) (d251 hw e338) rfl ?_
                              refine r_go (t := 340) c250_225 rfl ?_
                              refine al0 c250_340 ?_
                              refine r_bi c250_341 kB59 ?_
                              obtain ⟨⟨ov339, I340, J341⟩, e342, h⟩ := pm_bd_sp h
                              dsimp only at h
                              refine cz2 q250_343 (μ1 := (I340, J341, P, pm_T0, e)) (d238 hw e342) rfl ?_
                              cases h
                              exact r_rv c250_346 rt250 rfl
                          · rw [if_pos h313] at h
                            refine r_ic c250_197 kI4 ?_
                            refine r_go (t := 217) c250_198 rfl ?_
                            refine al0 c250_217 ?_
                            obtain ⟨⟨ov343, I344, J345⟩, e346, h⟩ := pm_bd_sp h
                            dsimp only at h
                            refine cv1 q250_218 (v := .int ov343) (μ1 := (I344, J345, P, pm_T0, e)) (d252 hw e346) rfl ?_
                            refine r_ic c250_221 kI0 ?_
                            obtain ⟨⟨ov347, I348, J349⟩, e350, h⟩ := pm_bd_sp h
                            dsimp only at h
                            refine cz4 q250_222 (μ1 := (I348, J349, P, pm_T0, e)) (d251 hw e350) rfl ?_
                            refine r_go (t := 340) c250_225 rfl ?_
                            refine al0 c250_340 ?_
                            refine r_bi c250_341 kB59 ?_
                            obtain ⟨⟨ov351, I352, J353⟩, e354, h⟩ := pm_bd_sp h
                            dsimp only at h
                            refine cz2 q250_343 (μ1 := (I352, J353, P, pm_T0, e)) (d238 hw e354) rfl ?_
                            cases h
                            exact r_rv c250_346 rt250 rfl
                        · rw [if_pos h308] at h
                          refine r_ic c250_183 kI3 ?_
                          refine r_go (t := 217) c250_184 rfl ?_
                          refine al0 c250_217 ?_
                          obtain ⟨⟨ov355, I356, J357⟩, e358, h⟩ := pm_bd_sp h
                          dsimp only at h
                          refine cv1 q250_218 (v := .int ov355) (μ1 := (I356, J357, P, pm_T0, e)) (d252 hw e358) rfl ?_
                          refine r_ic c250_221 kI0 ?_
                          obtain ⟨⟨ov359, I360, J361⟩, e362, h⟩ := pm_bd_sp h
                          dsimp only at h
                          refine cz4 q250_222 (μ1 := (I360, J361, P, pm_T0, e)) (d251 hw e362) rfl ?_
                          refine r_go (t := 340) c250_225 rfl ?_
                          refine al0 c250_340 ?_
                          refine r_bi c250_341 kB59 ?_
                          obtain ⟨⟨ov363, I364, J365⟩, e366, h⟩ := pm_bd_sp h
                          dsimp only at h
                          refine cz2 q250_343 (μ1 := (I364, J365, P, pm_T0, e)) (d238 hw e366) rfl ?_
                          cases h
                          exact r_rv c250_346 rt250 rfl
              · rw [if_pos h49] at h
                refine al0 c250_103 ?_
                obtain ⟨⟨ov367, I368, J369⟩, e370, h⟩ := pm_bd_sp h
                dsimp only at h
                refine cz1 q250_104 (μ1 := (I368, J369, P, pm_T0, e)) (d233 hw e370) rfl ?_
                refine al0 c250_107 ?_
                obtain ⟨⟨ov371, I372, J373⟩, e374, h⟩ := pm_bd_sp h
                dsimp only at h
                refine cv1 q250_108 (v := .int ov371) (μ1 := (I372, J373, P, pm_T0, e)) (d252 hw e374) rfl ?_
                refine is2 c250_111 rfl ?_
                refine al0 c250_112 ?_
                refine r_ic c250_113 kI2 ?_
                refine il2 c250_114 ?_
                refine al0 c250_115 ?_
                refine r_ic c250_116 kI1 ?_
                refine r_bi c250_117 kB24 ?_
                obtain ⟨⟨ov375, I376, J377⟩, e378, h⟩ := pm_bd_sp h
                dsimp only at h
                refine cv3 q250_119 (v := .int ov375) (μ1 := (I376, J377, P, pm_T0, e)) (d235 hw e378) rfl ?_
                obtain ⟨⟨ov379, I380, J381⟩, e382, h⟩ := pm_bd_sp h
                dsimp only at h
                refine cz4 q250_122 (μ1 := (I380, J381, P, pm_T0, e)) (d251 hw e382) rfl ?_
                refine r_go (t := 340) c250_125 rfl ?_
                refine al0 c250_340 ?_
                refine r_bi c250_341 kB59 ?_
                obtain ⟨⟨ov383, I384, J385⟩, e386, h⟩ := pm_bd_sp h
                dsimp only at h
                refine cz2 q250_343 (μ1 := (I384, J385, P, pm_T0, e)) (d238 hw e386) rfl ?_
                cases h
                exact r_rv c250_346 rt250 rfl
            · rw [if_pos h44] at h
              refine al0 c250_64 ?_
              obtain ⟨⟨ov387, I388, J389⟩, e390, h⟩ := pm_bd_sp h
              dsimp only at h
              refine cz1 q250_65 (μ1 := (I388, J389, P, pm_T0, e)) (d233 hw e390) rfl ?_
              refine al0 c250_68 ?_
              obtain ⟨⟨ov391, I392, J393⟩, e394, h⟩ := pm_bd_sp h
              dsimp only at h
              refine cv1 q250_69 (v := .int ov391) (μ1 := (I392, J393, P, pm_T0, e)) (d252 hw e394) rfl ?_
              refine is2 c250_72 rfl ?_
              refine al0 c250_73 ?_
              refine r_ic c250_74 kI1 ?_
              refine il2 c250_75 ?_
              refine al0 c250_76 ?_
              refine r_ic c250_77 kI0 ?_
              refine al0 c250_78 ?_
              refine r_gi g250_79 (by first | rfl | assumption) rfl ?_
              refine r_ic c250_82 kI1 ?_
              refine r_isub c250_83 ?_
              obtain ⟨⟨ov395, I396, J397⟩, e398, h⟩ := pm_bd_sp h
              dsimp only at h
              refine cv3 q250_84 (v := .int ov395) (μ1 := (I396, J397, P, pm_T0, e)) (d235 hw e398) rfl ?_
              obtain ⟨⟨ov399, I400, J401⟩, e402, h⟩ := pm_bd_sp h
              dsimp only at h
              refine cz4 q250_87 (μ1 := (I400, J401, P, pm_T0, e)) (d251 hw e402) rfl ?_
              refine r_go (t := 340) c250_90 rfl ?_
              refine al0 c250_340 ?_
              refine r_bi c250_341 kB59 ?_
              obtain ⟨⟨ov403, I404, J405⟩, e406, h⟩ := pm_bd_sp h
              dsimp only at h
              refine cz2 q250_343 (μ1 := (I404, J405, P, pm_T0, e)) (d238 hw e406) rfl ?_
              cases h
              exact r_rv c250_346 rt250 rfl
          · rw [if_pos h39] at h
            refine al0 c250_25 ?_
            obtain ⟨⟨ov407, I408, J409⟩, e410, h⟩ := pm_bd_sp h
            dsimp only at h
            refine cz1 q250_26 (μ1 := (I408, J409, P, pm_T0, e)) (d233 hw e410) rfl ?_
            refine al0 c250_29 ?_
            refine il1 c250_30 ?_
            refine r_ks v250_31 ?_
            obtain ⟨⟨ov411, I412, J413⟩, e414, h⟩ := pm_bd_sp h
            dsimp only at h
            refine cv1 q250_34 (v := .int ov411) (μ1 := (I412, J413, P, pm_T0, e)) (d231 hw (by first | rfl | assumption | decide) e414) rfl ?_
            refine r_icne (t := 44) c250_37 rfl (fun h415 => ?_) (fun h415 => ?_)
            · rw [if_neg h415] at h
              refine r_bi c250_44 kB7 ?_
              refine r_ic c250_46 kI0 ?_
              refine r_ic c250_47 kI0 ?_
              obtain ⟨⟨ov416, I417, J418⟩, e419, h⟩ := pm_bd_sp h
              dsimp only at h
              refine cz4 q250_48 (μ1 := (I417, J418, P, pm_T0, e)) (d251 hw e419) rfl ?_
              refine r_go (t := 340) c250_51 rfl ?_
              refine al0 c250_340 ?_
              refine r_bi c250_341 kB59 ?_
              obtain ⟨⟨ov420, I421, J422⟩, e423, h⟩ := pm_bd_sp h
              dsimp only at h
              refine cz2 q250_343 (μ1 := (I421, J422, P, pm_T0, e)) (d238 hw e423) rfl ?_
              cases h
              exact r_rv c250_346 rt250 rfl
            · rw [if_pos h415] at h
              refine r_ic c250_40 kI0 ?_
              refine r_go (t := 46) c250_41 rfl ?_
              refine r_ic c250_46 kI0 ?_
              refine r_ic c250_47 kI0 ?_
              obtain ⟨⟨ov424, I425, J426⟩, e427, h⟩ := pm_bd_sp h
              dsimp only at h
              refine cz4 q250_48 (μ1 := (I425, J426, P, pm_T0, e)) (d251 hw e427) rfl ?_
              refine r_go (t := 340) c250_51 rfl ?_
              refine al0 c250_340 ?_
              refine r_bi c250_341 kB59 ?_
              obtain ⟨⟨ov428, I429, J430⟩, e431, h⟩ := pm_bd_sp h
              dsimp only at h
              refine cz2 q250_343 (μ1 := (I429, J430, P, pm_T0, e)) (d238 hw e431) rfl ?_
              cases h
              exact r_rv c250_346 rt250 rfl
      · intro y3 I J q z1 z2 h
        rw [g250] at h
        rw [hd]
        refine al0 c250_270 ?_
        refine cv1 q250_271 (d224 hw rfl) rfl ?_
        refine r_ifeq (t := 293) c250_274 rfl (fun h1 => ?_) (fun h1 => ?_)
        · rw [if_neg (pm_bf h1)] at h
          refine al0 c250_293 ?_
          refine r_bi c250_294 kB93 ?_
          obtain ⟨⟨ov2, I3, J4⟩, e5, h⟩ := pm_bd_sp h
          dsimp only at h
          refine cz2 q250_296 (μ1 := (I3, J4, P, pm_T0, e)) (d238 hw e5) rfl ?_
          refine al0 c250_299 ?_
          refine r_dpr c250_300 ?_
          refine r_gi g250_301 (by first | rfl | assumption) rfl ?_
          refine r_ic c250_304 kI1 ?_
          refine r_isub c250_305 ?_
          refine w_pi p250_306 (by first | rfl | assumption) rfl ?_
          rw [pm_lt_eq] at h
          generalize pm_w I3 127 7 ((I3 127 7) - 1) = I6 at h ⊢
          refine al0 c250_309 ?_
          refine cv1 q250_310 (d224 hw rfl) rfl ?_
          refine r_ifeq (t := 328) c250_313 rfl (fun h7 => ?_) (fun h7 => ?_)
          · rw [if_neg (pm_bf h7)] at h
            refine r_go (t := 340) c250_328 rfl ?_
            refine al0 c250_340 ?_
            refine r_bi c250_341 kB59 ?_
            obtain ⟨⟨ov8, I9, J10⟩, e11, h⟩ := pm_bd_sp h
            dsimp only at h
            refine cz2 q250_343 (μ1 := (I9, J10, P, pm_T0, e)) (d238 hw e11) rfl ?_
            cases h
            exact r_rv c250_346 rt250 rfl
          · rw [if_pos (pm_bt h7)] at h
            refine al0 c250_316 ?_
            refine r_gr g250_317 rfl rfl (hp _ _ _ rfl) ?_
            refine il3 c250_320 ?_
            refine r_ic c250_321 kI2 ?_
            refine r_iadd c250_322 ?_
            refine al0 c250_323 ?_
            refine r_gi g250_324 (by first | rfl | assumption) rfl ?_
            obtain ⟨gd12, h⟩ := pm_gd_sp h
            refine w_ist c250_327 (by first | rfl | assumption) gd12 ?_
            rw [pm_lt_eq] at h
            generalize pm_w I6 141 (y3 + 2).toNatClampNeg (I6 127 31) = I13 at h ⊢
            refine r_go (t := 340) c250_328 rfl ?_
            refine al0 c250_340 ?_
            refine r_bi c250_341 kB59 ?_
            obtain ⟨⟨ov14, I15, J16⟩, e17, h⟩ := pm_bd_sp h
            dsimp only at h
            refine cz2 q250_343 (μ1 := (I15, J16, P, pm_T0, e)) (d238 hw e17) rfl ?_
            cases h
            exact r_rv c250_346 rt250 rfl
        · rw [if_pos (pm_bt h1)] at h
          refine al0 c250_277 ?_
          obtain ⟨⟨ov18, I19, J20⟩, e21, h⟩ := pm_bd_sp h
          dsimp only at h
          refine cv1 q250_278 (v := .int ov18) (μ1 := (I19, J20, P, pm_T0, e)) (d226 hw e21) rfl ?_
          refine r_bi c250_281 kB93 ?_
          refine r_iceq (t := 293) c250_283 rfl (fun h22 => ?_) (fun h22 => ?_)
          · rw [if_pos h22] at h
            refine al0 c250_293 ?_
            refine r_bi c250_294 kB93 ?_
            obtain ⟨⟨ov23, I24, J25⟩, e26, h⟩ := pm_bd_sp h
            dsimp only at h
            refine cz2 q250_296 (μ1 := (I24, J25, P, pm_T0, e)) (d238 hw e26) rfl ?_
            refine al0 c250_299 ?_
            refine r_dpr c250_300 ?_
            refine r_gi g250_301 (by first | rfl | assumption) rfl ?_
            refine r_ic c250_304 kI1 ?_
            refine r_isub c250_305 ?_
            refine w_pi p250_306 (by first | rfl | assumption) rfl ?_
            rw [pm_lt_eq] at h
            generalize pm_w I24 127 7 ((I24 127 7) - 1) = I27 at h ⊢
            refine al0 c250_309 ?_
            refine cv1 q250_310 (d224 hw rfl) rfl ?_
            refine r_ifeq (t := 328) c250_313 rfl (fun h28 => ?_) (fun h28 => ?_)
            · rw [if_neg (pm_bf h28)] at h
              refine r_go (t := 340) c250_328 rfl ?_
              refine al0 c250_340 ?_
              refine r_bi c250_341 kB59 ?_
              obtain ⟨⟨ov29, I30, J31⟩, e32, h⟩ := pm_bd_sp h
              dsimp only at h
              refine cz2 q250_343 (μ1 := (I30, J31, P, pm_T0, e)) (d238 hw e32) rfl ?_
              cases h
              exact r_rv c250_346 rt250 rfl
            · rw [if_pos (pm_bt h28)] at h
              refine al0 c250_316 ?_
              refine r_gr g250_317 rfl rfl (hp _ _ _ rfl) ?_
              refine il3 c250_320 ?_
              refine r_ic c250_321 kI2 ?_
              refine r_iadd c250_322 ?_
              refine al0 c250_323 ?_
              refine r_gi g250_324 (by first | rfl | assumption) rfl ?_
              obtain ⟨gd33, h⟩ := pm_gd_sp h
              refine w_ist c250_327 (by first | rfl | assumption) gd33 ?_
              rw [pm_lt_eq] at h
              generalize pm_w I27 141 (y3 + 2).toNatClampNeg (I27 127 31) = I34 at h ⊢
              refine r_go (t := 340) c250_328 rfl ?_
              refine al0 c250_340 ?_
              refine r_bi c250_341 kB59 ?_
              obtain ⟨⟨ov35, I36, J37⟩, e38, h⟩ := pm_bd_sp h
              dsimp only at h
              refine cz2 q250_343 (μ1 := (I36, J37, P, pm_T0, e)) (d238 hw e38) rfl ?_
              cases h
              exact r_rv c250_346 rt250 rfl
          · rw [if_neg h22] at h
            refine al0 c250_286 ?_
            obtain ⟨⟨ov39, I40, J41⟩, e42, h⟩ := pm_bd_sp h
            dsimp only at h
            refine cz1 q250_287 (μ1 := (I40, J41, P, pm_T0, e)) ((ih dep).1 e42) rfl ?_
            refine r_go (t := 270) c250_290 rfl ?_
            (rw [← hd]; exact (ih (dep + 1)).2 h)
def f250  (I : Nat → Nat → Int32) (J : Nat → Nat → Int64) : Option (Unit × (Nat → Nat → Int32) × (Nat → Nat → Int64)) := g250 pm_FU 40 0 0 I J
theorem d250 {X : (Nat → Int32) × Nat} {d : Nat} {I : Nat → Nat → Int32} {J : Nat → Nat → Int64} {P : Nat → Nat → Value} {e r k r2 k2 : Nat}  {q : Unit × (Nat → Nat → Int32) × (Nat → Nat → Int64)} (hw : pm_W P r k r2 k2)  (h : f250  I J = some q) : pm_Fn X (d + 46) 250 1 [.ref 127] (I, J, P, pm_T0, e) (.inl none) (q.2.1, q.2.2, P, pm_T0, e) := by
  have hd : d + 40 + 6 = d + 46 := by omega
  rw [← hd]
  exact (dg250 hw pm_FU 40).1 h
def f253  (I : Nat → Nat → Int32) (J : Nat → Nat → Int64) : Option (Unit × (Nat → Nat → Int32) × (Nat → Nat → Int64)) := (f218 143 66 144 66 66 I J).bind (fun (ov1, I2, J3) => pm_lt (pm_w I2 127 40 0) (fun I5 => pm_lt (pm_w I5 127 41 0) (fun I6 => pm_lt (pm_w I6 127 42 0) (fun I7 => some ((), I7, J3)))))
theorem d253 {X : (Nat → Int32) × Nat} {d : Nat} {I : Nat → Nat → Int32} {J : Nat → Nat → Int64} {P : Nat → Nat → Value} {e r k r2 k2 : Nat}  {q : Unit × (Nat → Nat → Int32) × (Nat → Nat → Int64)} (hw : pm_W P r k r2 k2)  (h : f253  I J = some q) : pm_Fn X (d + 1) 253 1 [.ref 127] (I, J, P, pm_T0, e) (.inl none) (q.2.1, q.2.2, P, pm_T0, e) := by
  obtain ⟨hp, hw1, hw2, hw3, hw4, hw5, hw6, hw7, hw8, hw9, hw10, hw11⟩ := id hw
  have hwa := hw5.1
  have hwb := hw6.1
  have hwc := hw7.1
  have hwd := hw8.1
  unfold f253 at h
  refine fn_v rc253 (c := 12) (nf := 59) (by first | rfl | assumption) ml253 rfl rfl rfl rfl ?_
  refine al0 c253_0 ?_
  refine al0 c253_1 ?_
  refine r_gr g253_2 rfl rfl (hp _ _ _ rfl) ?_
  refine al0 c253_5 ?_
  refine r_gr g253_6 rfl rfl (hp _ _ _ rfl) ?_
  refine r_bi c253_9 kB66 ?_
  obtain ⟨⟨ov1, I2, J3⟩, e4, h⟩ := pm_bd_sp h
  dsimp only at h
  refine cz4 q253_11 (μ1 := (I2, J3, P, pm_T0, e)) (d218 hw (by first | rfl | assumption | decide) (by first | rfl | assumption | decide) (by first | rfl | assumption | decide) (by first | rfl | assumption | decide) e4) rfl ?_
  refine al0 c253_14 ?_
  refine r_ic c253_15 kI0 ?_
  refine w_pi p253_16 (by first | rfl | assumption) rfl ?_
  rw [pm_lt_eq] at h
  generalize pm_w I2 127 40 0 = I5 at h ⊢
  refine al0 c253_19 ?_
  refine r_ic c253_20 kI0 ?_
  refine w_pi p253_21 (by first | rfl | assumption) rfl ?_
  rw [pm_lt_eq] at h
  generalize pm_w I5 127 41 0 = I6 at h ⊢
  refine al0 c253_24 ?_
  refine r_ic c253_25 kI0 ?_
  refine w_pi p253_26 (by first | rfl | assumption) rfl ?_
  rw [pm_lt_eq] at h
  generalize pm_w I6 127 42 0 = I7 at h ⊢
  cases h
  exact r_rv c253_29 rt253 rfl
def f257_4  : Nat → Int32 → Int32 → Int32 → (Nat → Nat → Int32) → (Nat → Nat → Int64) → Option (Int32 × (Nat → Nat → Int32) × (Nat → Nat → Int64))
  | 0, _, _, _, _, _ => none
  | fu + 1, y1, y2, y3, I, J => (if y3.toInt < (I 127 18).toInt then pm_gd (pm_in (0 + y3) 66) ((if (I 144 (0 + y3).toNatClampNeg) = y1 then f257_4 fu y1 (y2 + 1) (y3 + 1) I J else f257_4 fu y1 (y2 + 0) (y3 + 1) I J)) else some (y2, I, J))
def f257 (x1 : Int32) (I : Nat → Nat → Int32) (J : Nat → Nat → Int64) : Option (Int32 × (Nat → Nat → Int32) × (Nat → Nat → Int64)) := f257_4 pm_FU x1 0 0 I J
theorem d257_4 {X : (Nat → Int32) × Nat} {d : Nat} {P : Nat → Nat → Value} {e r k r2 k2 : Nat}  (hw : pm_W P r k r2 k2)  : ∀ (fu : Nat) {y1 y2 y3 : Int32} {I : Nat → Nat → Int32} {J : Nat → Nat → Int64} {q : Int32 × (Nat → Nat → Int32) × (Nat → Nat → Int64)} (h : f257_4 fu y1 y2 y3 I J = some q), pm_Fx X (d) 257 4 [.ref 127, .int y1, .int y2, .int y3] [] (I, J, P, pm_T0, e) (.inl (some (.int q.1))) (q.2.1, q.2.2, P, pm_T0, e) := by
  obtain ⟨hp, hw1, hw2, hw3, hw4, hw5, hw6, hw7, hw8, hw9, hw10, hw11⟩ := id hw
  have hwa := hw5.1
  have hwb := hw6.1
  have hwc := hw7.1
  have hwd := hw8.1
  intro fu
  induction fu with
  | zero => intro y1 y2 y3 I J q h; cases h
  | succ fu ih =>
    intro y1 y2 y3 I J q h
    rw [f257_4] at h
    refine il3 c257_4 ?_
    refine al0 c257_5 ?_
    refine r_gi g257_6 (by first | rfl | assumption) rfl ?_
    refine r_icge (t := 38) c257_9 rfl (fun h1 => ?_) (fun h1 => ?_)
    · rw [if_neg (Int.not_lt.mpr h1)] at h
      refine il2 c257_38 ?_
      cases h
      exact r_ri c257_39 rt257 rfl rfl
    · rw [if_pos h1] at h
      refine il2 c257_12 ?_
      refine al0 c257_13 ?_
      refine r_gr g257_14 rfl rfl (hp _ _ _ rfl) ?_
      refine r_ic c257_17 kI0 ?_
      refine il3 c257_18 ?_
      refine r_iadd c257_19 ?_
      obtain ⟨gd2, h⟩ := pm_gd_sp h
      refine w_ia c257_20 (by first | rfl | assumption) gd2 ?_
      refine il1 c257_21 ?_
      refine r_icne (t := 29) c257_22 rfl (fun h3 => ?_) (fun h3 => ?_)
      · rw [if_neg h3] at h
        refine r_ic c257_29 kI0 ?_
        refine r_iadd c257_30 ?_
        refine is2 c257_31 rfl ?_
        refine ii3 c257_32 kI1 rfl ?_
        refine r_go (t := 4) c257_35 rfl ?_
        exact ih h
      · rw [if_pos h3] at h
        refine r_ic c257_25 kI1 ?_
        refine r_go (t := 30) c257_26 rfl ?_
        refine r_iadd c257_30 ?_
        refine is2 c257_31 rfl ?_
        refine ii3 c257_32 kI1 rfl ?_
        refine r_go (t := 4) c257_35 rfl ?_
        exact ih h
theorem d257 {X : (Nat → Int32) × Nat} {d : Nat} {I : Nat → Nat → Int32} {J : Nat → Nat → Int64} {P : Nat → Nat → Value} {e r k r2 k2 : Nat} {x1 : Int32} {q : Int32 × (Nat → Nat → Int32) × (Nat → Nat → Int64)} (hw : pm_W P r k r2 k2)  (h : f257 x1 I J = some q) : pm_Fn X (d) 257 1 [.ref 127, .int x1] (I, J, P, pm_T0, e) (.inl (some (.int q.1))) (q.2.1, q.2.2, P, pm_T0, e) := by
  obtain ⟨hp, hw1, hw2, hw3, hw4, hw5, hw6, hw7, hw8, hw9, hw10, hw11⟩ := id hw
  have hwa := hw5.1
  have hwb := hw6.1
  have hwc := hw7.1
  have hwd := hw8.1
  unfold f257 at h
  refine fn_v rc257 (c := 12) (nf := 59) (by first | rfl | assumption) ml257 rfl rfl rfl rfl ?_
  refine r_ic c257_0 kI0 ?_
  refine is2 c257_1 rfl ?_
  refine r_ic c257_2 kI0 ?_
  refine is3 c257_3 rfl ?_
  exact d257_4 hw pm_FU h
