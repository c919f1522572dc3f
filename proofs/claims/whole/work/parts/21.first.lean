/-! THE METHODS AS FUNCTIONS OF THE MEMORY (written by dec.py) -/

def v107  (I : Nat → Nat → Int32) : Int32 := pm_at (I 5) 66 64
theorem d107 {X : (Nat → Int32) × Nat} {d : Nat} {I : Nat → Nat → Int32} {J : Nat → Nat → Int64} {P : Nat → Nat → Value} {e r k r2 k2 : Nat}  {q : Int32} (hw : pm_W P r k r2 k2)  (h : v107  I = q) : pm_Fn X (d + 1) 107 1 [.ref 4] (I, J, P, pm_T0, e) (.inl (some (.int q))) (I, J, P, pm_T0, e) := by
  obtain ⟨hp, hw1, hw2, hw3, hw4, hw5, hw6, hw7, hw8, hw9, hw10, hw11⟩ := id hw
  have hwa := hw5.1
  have hwb := hw6.1
  have hwc := hw7.1
  have hwd := hw8.1
  unfold v107 at h
  refine fn_v rc107 (c := 6) (nf := 1) (by first | rfl | assumption) ml107 rfl rfl rfl rfl ?_
  refine al0 c107_0 ?_
  refine r_gr g107_1 (by first | rfl | assumption) rfl (by first | exact hp _ _ _ rfl | assumption) ?_
  refine r_bi c107_4 kB64 ?_
  refine cv2 q107_6 (s160 (by first | rfl | assumption) (by first | decide | assumption)) rfl ?_
  cases h
  exact r_ri c107_9 rt107 rfl rfl
def v108  (I : Nat → Nat → Int32) : Int32 := pm_at (I 5) 66 65
theorem d108 {X : (Nat → Int32) × Nat} {d : Nat} {I : Nat → Nat → Int32} {J : Nat → Nat → Int64} {P : Nat → Nat → Value} {e r k r2 k2 : Nat}  {q : Int32} (hw : pm_W P r k r2 k2)  (h : v108  I = q) : pm_Fn X (d + 1) 108 1 [.ref 4] (I, J, P, pm_T0, e) (.inl (some (.int q))) (I, J, P, pm_T0, e) := by
  obtain ⟨hp, hw1, hw2, hw3, hw4, hw5, hw6, hw7, hw8, hw9, hw10, hw11⟩ := id hw
  have hwa := hw5.1
  have hwb := hw6.1
  have hwc := hw7.1
  have hwd := hw8.1
  unfold v108 at h
  refine fn_v rc108 (c := 6) (nf := 1) (by first | rfl | assumption) ml108 rfl rfl rfl rfl ?_
  refine al0 c108_0 ?_
  refine r_gr g108_1 (by first | rfl | assumption) rfl (by first | exact hp _ _ _ rfl | assumption) ?_
  refine r_bi c108_4 kB65 ?_
  refine cv2 q108_6 (s160 (by first | rfl | assumption) (by first | decide | assumption)) rfl ?_
  cases h
  exact r_ri c108_9 rt108 rfl rfl
def v30 (x1 : Int32) (x2 : Int32) (I : Nat → Nat → Int32) : Bool := (if (pm_sget (I 5) 0 x1) = x2 then true else false)
theorem d30 {X : (Nat → Int32) × Nat} {d : Nat} {I : Nat → Nat → Int32} {J : Nat → Nat → Int64} {P : Nat → Nat → Value} {e r k r2 k2 : Nat} {x1 : Int32} {x2 : Int32} {q : Bool} (hw : pm_W P r k r2 k2)  (h : v30 x1 x2 I = q) : pm_Fn X (d + 2) 30 1 [.ref 3, .int x1, .int x2] (I, J, P, pm_T0, e) (.inl (some (.int (pm_bi q)))) (I, J, P, pm_T0, e) := by
  obtain ⟨hp, hw1, hw2, hw3, hw4, hw5, hw6, hw7, hw8, hw9, hw10, hw11⟩ := id hw
  have hwa := hw5.1
  have hwb := hw6.1
  have hwc := hw7.1
  have hwd := hw8.1
  unfold v30 at h
  refine fn_v rc30 (c := 3) (nf := 7) (by first | rfl | assumption) ml30 rfl rfl rfl rfl ?_
  refine al0 c30_0 ?_
  refine r_gr g30_1 (by first | rfl | assumption) rfl (by first | exact hp _ _ _ rfl | assumption) ?_
  refine r_ic c30_4 kI0 ?_
  refine il1 c30_5 ?_
  refine cv3 q30_6 (s106 (hp _ _ _ rfl)) rfl ?_
  refine il2 c30_9 ?_
  refine r_icne (t := 17) c30_10 rfl (fun h1 => ?_) (fun h1 => ?_)
  · rw [if_neg h1] at h
    refine r_ic c30_17 kI0 ?_
    cases h
    exact r_rz c30_18 rt30 (by decide) rfl rfl
  · rw [if_pos h1] at h
    refine r_ic c30_13 kI1 ?_
    refine r_go (t := 18) c30_14 rfl ?_
    cases h
    exact r_rz c30_18 rt30 (by decide) rfl rfl
def v95 (a0 : Nat) (x1 : Int32) (I : Nat → Nat → Int32) : Bool := (if x1.toInt < 0 then false else (if x1.toInt < (I a0 7).toInt then true else false))
theorem d95 {X : (Nat → Int32) × Nat} {d : Nat} {I : Nat → Nat → Int32} {J : Nat → Nat → Int64} {P : Nat → Nat → Value} {e r k r2 k2 : Nat} {a0 : Nat} {x1 : Int32} {q : Bool} (hw : pm_W P r k r2 k2) (hy0 : pm_rgT P a0) (h : v95 a0 x1 I = q) : pm_Fn X (d) 95 1 [.ref a0, .int x1] (I, J, P, pm_T0, e) (.inl (some (.int (pm_bi q)))) (I, J, P, pm_T0, e) := by
  obtain ⟨hp, hw1, hw2, hw3, hw4, hw5, hw6, hw7, hw8, hw9, hw10, hw11⟩ := id hw
  have hwa := hw5.1
  have hwb := hw6.1
  have hwc := hw7.1
  have hwd := hw8.1
  obtain ⟨t0, ⟨t1, t2, t3, t4, t5, t6, t7⟩, u0, u1, u2, u3, u4, u5, u6⟩ := id hy0
  unfold v95 at h
  refine fn_v rc95 (c := 5) (nf := 11) (by first | rfl | assumption) ml95 rfl rfl rfl rfl ?_
  refine il1 c95_0 ?_
  refine r_iflt (t := 16) c95_1 rfl (fun h1 => ?_) (fun h1 => ?_)
  · rw [if_pos h1] at h
    refine r_ic c95_16 kI0 ?_
    cases h
    exact r_rz c95_17 rt95 (by decide) rfl rfl
  · rw [if_neg (Int.not_lt.mpr h1)] at h
    refine il1 c95_4 ?_
    refine al0 c95_5 ?_
    refine r_gi g95_6 (by first | rfl | assumption) rfl ?_
    refine r_icge (t := 16) c95_9 rfl (fun h2 => ?_) (fun h2 => ?_)
    · rw [if_neg (Int.not_lt.mpr h2)] at h
      refine r_ic c95_16 kI0 ?_
      cases h
      exact r_rz c95_17 rt95 (by decide) rfl rfl
    · rw [if_pos h2] at h
      refine r_ic c95_12 kI1 ?_
      refine r_go (t := 17) c95_13 rfl ?_
      cases h
      exact r_rz c95_17 rt95 (by decide) rfl rfl
def v97 (a0 : Nat) (x1 : Int32) (I : Nat → Nat → Int32) : Bool := (if x1.toInt < 0 then false else (if x1.toInt < (I a0 8).toInt then true else false))
theorem d97 {X : (Nat → Int32) × Nat} {d : Nat} {I : Nat → Nat → Int32} {J : Nat → Nat → Int64} {P : Nat → Nat → Value} {e r k r2 k2 : Nat} {a0 : Nat} {x1 : Int32} {q : Bool} (hw : pm_W P r k r2 k2) (hy0 : pm_rgT P a0) (h : v97 a0 x1 I = q) : pm_Fn X (d) 97 1 [.ref a0, .int x1] (I, J, P, pm_T0, e) (.inl (some (.int (pm_bi q)))) (I, J, P, pm_T0, e) := by
  obtain ⟨hp, hw1, hw2, hw3, hw4, hw5, hw6, hw7, hw8, hw9, hw10, hw11⟩ := id hw
  have hwa := hw5.1
  have hwb := hw6.1
  have hwc := hw7.1
  have hwd := hw8.1
  obtain ⟨t0, ⟨t1, t2, t3, t4, t5, t6, t7⟩, u0, u1, u2, u3, u4, u5, u6⟩ := id hy0
  unfold v97 at h
  refine fn_v rc97 (c := 5) (nf := 11) (by first | rfl | assumption) ml97 rfl rfl rfl rfl ?_
  refine il1 c97_0 ?_
  refine r_iflt (t := 16) c97_1 rfl (fun h1 => ?_) (fun h1 => ?_)
  · rw [if_pos h1] at h
    refine r_ic c97_16 kI0 ?_
    cases h
    exact r_rz c97_17 rt97 (by decide) rfl rfl
  · rw [if_neg (Int.not_lt.mpr h1)] at h
    refine il1 c97_4 ?_
    refine al0 c97_5 ?_
    refine r_gi g97_6 (by first | rfl | assumption) rfl ?_
    refine r_icge (t := 16) c97_9 rfl (fun h2 => ?_) (fun h2 => ?_)
    · rw [if_neg (Int.not_lt.mpr h2)] at h
      refine r_ic c97_16 kI0 ?_
      cases h
      exact r_rz c97_17 rt97 (by decide) rfl rfl
    · rw [if_pos h2] at h
      refine r_ic c97_12 kI1 ?_
      refine r_go (t := 17) c97_13 rfl ?_
      cases h
      exact r_rz c97_17 rt97 (by decide) rfl rfl
def v71 (x0 : Int32) (I : Nat → Nat → Int32) : Int32 := 3 * (7 - x0)
theorem d71 {X : (Nat → Int32) × Nat} {d : Nat} {I : Nat → Nat → Int32} {J : Nat → Nat → Int64} {P : Nat → Nat → Value} {e r k r2 k2 : Nat} {x0 : Int32} {q : Int32} (hw : pm_W P r k r2 k2)  (h : v71 x0 I = q) : pm_Fn X (d) 71 0 [.int x0] (I, J, P, pm_T0, e) (.inl (some (.int q))) (I, J, P, pm_T0, e) := by
  obtain ⟨hp, hw1, hw2, hw3, hw4, hw5, hw6, hw7, hw8, hw9, hw10, hw11⟩ := id hw
  have hwa := hw5.1
  have hwb := hw6.1
  have hwc := hw7.1
  have hwd := hw8.1
  unfold v71 at h
  refine fn_s ml71 rfl rfl rfl ?_
  refine r_ic c71_0 kI3 ?_
  refine r_bi c71_1 kB7 ?_
  refine il0 c71_3 ?_
  refine r_isub c71_4 ?_
  refine r_imul c71_5 ?_
  cases h
  exact r_ri c71_6 rt71 rfl rfl
def v33 (x1 : Int32) (I : Nat → Nat → Int32) : Nat := (if x1 = 0 then 6 else 9)
theorem d33 {X : (Nat → Int32) × Nat} {d : Nat} {I : Nat → Nat → Int32} {J : Nat → Nat → Int64} {P : Nat → Nat → Value} {e r k r2 k2 : Nat} {x1 : Int32} {q : Nat} (hw : pm_W P r k r2 k2)  (h : v33 x1 I = q) : pm_Fn X (d) 33 1 [.ref 3, .int x1] (I, J, P, pm_T0, e) (.inl (some (.ref q))) (I, J, P, pm_T0, e) := by
  obtain ⟨hp, hw1, hw2, hw3, hw4, hw5, hw6, hw7, hw8, hw9, hw10, hw11⟩ := id hw
  have hwa := hw5.1
  have hwb := hw6.1
  have hwc := hw7.1
  have hwd := hw8.1
  unfold v33 at h
  refine fn_v rc33 (c := 3) (nf := 7) (by first | rfl | assumption) ml33 rfl rfl rfl rfl ?_
  refine il1 c33_0 ?_
  refine r_ifne (t := 11) c33_1 rfl (fun h1 => ?_) (fun h1 => ?_)
  · rw [if_neg h1] at h
    refine al0 c33_11 ?_
    refine r_gr g33_12 (by first | rfl | assumption) rfl (by first | exact hp _ _ _ rfl | assumption) ?_
    cases h
    exact r_rr c33_15 rt33 rfl rfl
  · rw [if_pos h1] at h
    refine al0 c33_4 ?_
    refine r_gr g33_5 (by first | rfl | assumption) rfl (by first | exact hp _ _ _ rfl | assumption) ?_
    refine r_go (t := 15) c33_8 rfl ?_
    cases h
    exact r_rr c33_15 rt33 rfl rfl
def v208 (x0 : Int32) (x1 : Int32) (x2 : Int32) (I : Nat → Nat → Int32) : Int32 := (if x0.toInt < x1.toInt then 0 else (if x1.toInt < x0.toInt then x2 - x0 else (x2 - x0) / 2))
theorem d208 {X : (Nat → Int32) × Nat} {d : Nat} {I : Nat → Nat → Int32} {J : Nat → Nat → Int64} {P : Nat → Nat → Value} {e r k r2 k2 : Nat} {x0 : Int32} {x1 : Int32} {x2 : Int32} {q : Int32} (hw : pm_W P r k r2 k2)  (h : v208 x0 x1 x2 I = q) : pm_Fn X (d) 208 0 [.int x0, .int x1, .int x2] (I, J, P, pm_T0, e) (.inl (some (.int q))) (I, J, P, pm_T0, e) := by
  obtain ⟨hp, hw1, hw2, hw3, hw4, hw5, hw6, hw7, hw8, hw9, hw10, hw11⟩ := id hw
  have hwa := hw5.1
  have hwb := hw6.1
  have hwc := hw7.1
  have hwd := hw8.1
  unfold v208 at h
  refine fn_s ml208 rfl rfl rfl ?_
  refine il0 c208_0 ?_
  refine il1 c208_1 ?_
  refine r_icge (t := 7) c208_2 rfl (fun h1 => ?_) (fun h1 => ?_)
  · rw [if_neg (Int.not_lt.mpr h1)] at h
    refine il0 c208_7 ?_
    refine il1 c208_8 ?_
    refine r_icle (t := 18) c208_9 rfl (fun h2 => ?_) (fun h2 => ?_)
    · rw [if_neg (Int.not_lt.mpr h2)] at h
      refine il2 c208_18 ?_
      refine il0 c208_19 ?_
      refine r_isub c208_20 ?_
      refine r_ic c208_21 kI2 ?_
      refine r_idiv c208_22 (by decide) ?_
      cases h
      exact r_ri c208_23 rt208 rfl rfl
    · rw [if_pos h2] at h
      refine il2 c208_12 ?_
      refine il0 c208_13 ?_
      refine r_isub c208_14 ?_
      refine r_go (t := 23) c208_15 rfl ?_
      cases h
      exact r_ri c208_23 rt208 rfl rfl
  · rw [if_pos h1] at h
    refine r_ic c208_5 kI0 ?_
    cases h
    exact r_ri c208_6 rt208 rfl rfl
def f103 (x1 : Int32) (I : Nat → Nat → Int32) (J : Nat → Nat → Int64) : Option (Unit × (Nat → Nat → Int32) × (Nat → Nat → Int64)) := pm_lt (pm_pw I 5 66 64 x1) (fun I1 => some ((), I1, J))
theorem d103 {X : (Nat → Int32) × Nat} {d : Nat} {I : Nat → Nat → Int32} {J : Nat → Nat → Int64} {P : Nat → Nat → Value} {e r k r2 k2 : Nat} {x1 : Int32} {q : Unit × (Nat → Nat → Int32) × (Nat → Nat → Int64)} (hw : pm_W P r k r2 k2)  (h : f103 x1 I J = some q) : pm_Fn X (d + 1) 103 1 [.ref 4, .int x1] (I, J, P, pm_T0, e) (.inl none) (q.2.1, q.2.2, P, pm_T0, e) := by
  obtain ⟨hp, hw1, hw2, hw3, hw4, hw5, hw6, hw7, hw8, hw9, hw10, hw11⟩ := id hw
  have hwa := hw5.1
  have hwb := hw6.1
  have hwc := hw7.1
  have hwd := hw8.1
  unfold f103 at h
  refine fn_v rc103 (c := 6) (nf := 1) (by first | rfl | assumption) ml103 rfl rfl rfl rfl ?_
  refine al0 c103_0 ?_
  refine r_gr g103_1 (by first | rfl | assumption) rfl (by first | exact hp _ _ _ rfl | assumption) ?_
  refine r_bi c103_4 kB64 ?_
  refine il1 c103_6 ?_
  refine cz3 q103_7 (t159 (by first | rfl | assumption) (by first | decide | assumption)) rfl ?_
  rw [pm_lt_eq] at h
  generalize pm_pw I 5 66 64 x1 = I1 at h ⊢
  cases h
  exact r_rv c103_10 rt103 rfl
def f104 (x1 : Int32) (I : Nat → Nat → Int32) (J : Nat → Nat → Int64) : Option (Unit × (Nat → Nat → Int32) × (Nat → Nat → Int64)) := pm_lt (pm_pw I 5 66 65 x1) (fun I1 => some ((), I1, J))
theorem d104 {X : (Nat → Int32) × Nat} {d : Nat} {I : Nat → Nat → Int32} {J : Nat → Nat → Int64} {P : Nat → Nat → Value} {e r k r2 k2 : Nat} {x1 : Int32} {q : Unit × (Nat → Nat → Int32) × (Nat → Nat → Int64)} (hw : pm_W P r k r2 k2)  (h : f104 x1 I J = some q) : pm_Fn X (d + 1) 104 1 [.ref 4, .int x1] (I, J, P, pm_T0, e) (.inl none) (q.2.1, q.2.2, P, pm_T0, e) := by
  obtain ⟨hp, hw1, hw2, hw3, hw4, hw5, hw6, hw7, hw8, hw9, hw10, hw11⟩ := id hw
  have hwa := hw5.1
  have hwb := hw6.1
  have hwc := hw7.1
  have hwd := hw8.1
  unfold f104 at h
  refine fn_v rc104 (c := 6) (nf := 1) (by first | rfl | assumption) ml104 rfl rfl rfl rfl ?_
  refine al0 c104_0 ?_
  refine r_gr g104_1 (by first | rfl | assumption) rfl (by first | exact hp _ _ _ rfl | assumption) ?_
  refine r_bi c104_4 kB65 ?_
  refine il1 c104_6 ?_
  refine cz3 q104_7 (t159 (by first | rfl | assumption) (by first | decide | assumption)) rfl ?_
  rw [pm_lt_eq] at h
  generalize pm_pw I 5 66 65 x1 = I1 at h ⊢
  cases h
  exact r_rv c104_10 rt104 rfl
def f36_4 (r : Nat)  : Nat → Int32 → Int32 → Int32 → (Nat → Nat → Int32) → (Nat → Nat → Int64) → Option (Int32 × (Nat → Nat → Int32) × (Nat → Nat → Int64))
  | 0, _, _, _, _, _ => none
  | fu + 1, y1, y2, y3, I, J => (if y3.toInt < (I r 7).toInt then (if (v30 y3 y1 I) = true then f36_4 r fu y1 (y2 + 1) (y3 + 1) I J else f36_4 r fu y1 y2 (y3 + 1) I J) else some (y2, I, J))
def f36 (r : Nat) (x1 : Int32) (I : Nat → Nat → Int32) (J : Nat → Nat → Int64) : Option (Int32 × (Nat → Nat → Int32) × (Nat → Nat → Int64)) := f36_4 r pm_FU x1 0 0 I J
theorem d36_4 {X : (Nat → Int32) × Nat} {d : Nat} {P : Nat → Nat → Value} {e r k r2 k2 : Nat}  (hw : pm_W P r k r2 k2)  : ∀ (fu : Nat) {y1 y2 y3 : Int32} {I : Nat → Nat → Int32} {J : Nat → Nat → Int64} {q : Int32 × (Nat → Nat → Int32) × (Nat → Nat → Int64)} (h : f36_4 r fu y1 y2 y3 I J = some q), pm_Fx X (d + 3) 36 4 [.ref 3, .int y1, .int y2, .int y3] [] (I, J, P, pm_T0, e) (.inl (some (.int q.1))) (q.2.1, q.2.2, P, pm_T0, e) := by
  obtain ⟨hp, hw1, hw2, hw3, hw4, hw5, hw6, hw7, hw8, hw9, hw10, hw11⟩ := id hw
  have hwa := hw5.1
  have hwb := hw6.1
  have hwc := hw7.1
  have hwd := hw8.1
  intro fu
  induction fu with
  | zero => intro y1 y2 y3 I J q h; cases h
  | succ fu ih =>
    intro y1 y2 y3 I J q h
    rw [f36_4] at h
    refine il3 c36_4 ?_
    refine al0 c36_5 ?_
    refine r_gr g36_6 (by first | rfl | assumption) rfl (by first | exact hp _ _ _ rfl | assumption) ?_
    refine cv1 q36_9 (s81 (by first | rfl | assumption)) rfl ?_
    refine r_icge (t := 33) c36_12 rfl (fun h1 => ?_) (fun h1 => ?_)
    · rw [if_neg (Int.not_lt.mpr h1)] at h
      refine il2 c36_33 ?_
      cases h
      exact r_ri c36_34 rt36 rfl rfl
    · rw [if_pos h1] at h
      refine al0 c36_15 ?_
      refine il3 c36_16 ?_
      refine il1 c36_17 ?_
      refine cv3 q36_18 (d30 hw rfl) rfl ?_
      refine r_ifeq (t := 27) c36_21 rfl (fun h2 => ?_) (fun h2 => ?_)
      · rw [if_neg (pm_bf h2)] at h
        refine ii3 c36_27 kI1 rfl ?_
        refine r_go (t := 4) c36_30 rfl ?_
        exact ih h
      · rw [if_pos (pm_bt h2)] at h
        refine ii2 c36_24 kI1 rfl ?_
        refine ii3 c36_27 kI1 rfl ?_
        refine r_go (t := 4) c36_30 rfl ?_
        exact ih h
theorem d36 {X : (Nat → Int32) × Nat} {d : Nat} {I : Nat → Nat → Int32} {J : Nat → Nat → Int64} {P : Nat → Nat → Value} {e r k r2 k2 : Nat} {x1 : Int32} {q : Int32 × (Nat → Nat → Int32) × (Nat → Nat → Int64)} (hw : pm_W P r k r2 k2)  (h : f36 r x1 I J = some q) : pm_Fn X (d + 3) 36 1 [.ref 3, .int x1] (I, J, P, pm_T0, e) (.inl (some (.int q.1))) (q.2.1, q.2.2, P, pm_T0, e) := by
  obtain ⟨hp, hw1, hw2, hw3, hw4, hw5, hw6, hw7, hw8, hw9, hw10, hw11⟩ := id hw
  have hwa := hw5.1
  have hwb := hw6.1
  have hwc := hw7.1
  have hwd := hw8.1
  unfold f36 at h
  refine fn_v rc36 (c := 3) (nf := 7) (by first | rfl | assumption) ml36 rfl rfl rfl rfl ?_
  refine r_ic c36_0 kI0 ?_
  refine is2 c36_1 rfl ?_
  refine r_ic c36_2 kI0 ?_
  refine is3 c36_3 rfl ?_
  exact d36_4 hw pm_FU h
def f42_4 (r : Nat)  : Nat → Int32 → Int32 → Int32 → (Nat → Nat → Int32) → (Nat → Nat → Int64) → Option (Int32 × (Nat → Nat → Int32) × (Nat → Nat → Int64))
  | 0, _, _, _, _, _ => none
  | fu + 1, y1, y2, y3, I, J => (if y3.toInt < (I r 7).toInt then (if (v30 y3 2 I) = true then (if (pm_sget (I 5) 1 y3) = y1 then f42_4 r fu y1 (y2 + 1) (y3 + 1) I J else f42_4 r fu y1 y2 (y3 + 1) I J) else f42_4 r fu y1 y2 (y3 + 1) I J) else some (y2, I, J))
def f42 (r : Nat) (x1 : Int32) (I : Nat → Nat → Int32) (J : Nat → Nat → Int64) : Option (Int32 × (Nat → Nat → Int32) × (Nat → Nat → Int64)) := f42_4 r pm_FU x1 0 0 I J
theorem d42_4 {X : (Nat → Int32) × Nat} {d : Nat} {P : Nat → Nat → Value} {e r k r2 k2 : Nat}  (hw : pm_W P r k r2 k2)  : ∀ (fu : Nat) {y1 y2 y3 : Int32} {I : Nat → Nat → Int32} {J : Nat → Nat → Int64} {q : Int32 × (Nat → Nat → Int32) × (Nat → Nat → Int64)} (h : f42_4 r fu y1 y2 y3 I J = some q), pm_Fx X (d + 3) 42 4 [.ref 3, .int y1, .int y2, .int y3] [] (I, J, P, pm_T0, e) (.inl (some (.int q.1))) (q.2.1, q.2.2, P, pm_T0, e) := by
  obtain ⟨hp, hw1, hw2, hw3, hw4, hw5, hw6, hw7, hw8, hw9, hw10, hw11⟩ := id hw
  have hwa := hw5.1
  have hwb := hw6.1
  have hwc := hw7.1
  have hwd := hw8.1
  intro fu
  induction fu with
  | zero => intro y1 y2 y3 I J q h; cases h
  | succ fu ih =>
    intro y1 y2 y3 I J q h
    rw [f42_4] at h
    refine il3 c42_4 ?_
    refine al0 c42_5 ?_
    refine r_gr g42_6 (by first | rfl | assumption) rfl (by first | exact hp _ _ _ rfl | assumption) ?_
    refine cv1 q42_9 (s81 (by first | rfl | assumption)) rfl ?_
    refine r_icge (t := 46) c42_12 rfl (fun h1 => ?_) (fun h1 => ?_)
    · rw [if_neg (Int.not_lt.mpr h1)] at h
      refine il2 c42_46 ?_
      cases h
      exact r_ri c42_47 rt42 rfl rfl
    · rw [if_pos h1] at h
      refine al0 c42_15 ?_
      refine il3 c42_16 ?_
      refine r_ic c42_17 kI2 ?_
      refine cv3 q42_18 (d30 hw rfl) rfl ?_
      refine r_ifeq (t := 40) c42_21 rfl (fun h2 => ?_) (fun h2 => ?_)
      · rw [if_neg (pm_bf h2)] at h
        refine ii3 c42_40 kI1 rfl ?_
        refine r_go (t := 4) c42_43 rfl ?_
        exact ih h
      · rw [if_pos (pm_bt h2)] at h
        refine al0 c42_24 ?_
        refine r_gr g42_25 (by first | rfl | assumption) rfl (by first | exact hp _ _ _ rfl | assumption) ?_
        refine r_ic c42_28 kI1 ?_
        refine il3 c42_29 ?_
        refine cv3 q42_30 (s106 (hp _ _ _ rfl)) rfl ?_
        refine il1 c42_33 ?_
        refine r_icne (t := 40) c42_34 rfl (fun h3 => ?_) (fun h3 => ?_)
        · rw [if_neg h3] at h
          refine ii3 c42_40 kI1 rfl ?_
          refine r_go (t := 4) c42_43 rfl ?_
          exact ih h
        · rw [if_pos h3] at h
          refine ii2 c42_37 kI1 rfl ?_
          refine ii3 c42_40 kI1 rfl ?_
          refine r_go (t := 4) c42_43 rfl ?_
          exact ih h
theorem d42 {X : (Nat → Int32) × Nat} {d : Nat} {I : Nat → Nat → Int32} {J : Nat → Nat → Int64} {P : Nat → Nat → Value} {e r k r2 k2 : Nat} {x1 : Int32} {q : Int32 × (Nat → Nat → Int32) × (Nat → Nat → Int64)} (hw : pm_W P r k r2 k2)  (h : f42 r x1 I J = some q) : pm_Fn X (d + 3) 42 1 [.ref 3, .int x1] (I, J, P, pm_T0, e) (.inl (some (.int q.1))) (q.2.1, q.2.2, P, pm_T0, e) := by
  obtain ⟨hp, hw1, hw2, hw3, hw4, hw5, hw6, hw7, hw8, hw9, hw10, hw11⟩ := id hw
  have hwa := hw5.1
  have hwb := hw6.1
  have hwc := hw7.1
  have hwd := hw8.1
  unfold f42 at h
  refine fn_v rc42 (c := 3) (nf := 7) (by first | rfl | assumption) ml42 rfl rfl rfl rfl ?_
  refine r_ic c42_0 kI0 ?_
  refine is2 c42_1 rfl ?_
  refine r_ic c42_2 kI0 ?_
  refine is3 c42_3 rfl ?_
  exact d42_4 hw pm_FU h
def f84_14 (a0 : Nat) : Nat → Int32 → Int32 → Int32 → Int32 → (Nat → Nat → Int32) → (Nat → Nat → Int64) → Option (Int32 × (Nat → Nat → Int32) × (Nat → Nat → Int64))
  | 0, _, _, _, _, _, _ => none
  | fu + 1, y1, y2, y3, y4, I, J => (if y4.toInt < (I a0 7).toInt then (if y2 = 0 then f84_14 a0 fu y1 y2 y3 (y4 + 1) I J else (if y4 = y1 then f84_14 a0 fu y1 y2 y3 (y4 + 1) I J else (if (pm_at (I (a0 + 3)) 8 y4) = y2 then f84_14 a0 fu y1 y2 (y3 ||| (1 <<< (y4 &&& 31))) (y4 + 1) I J else f84_14 a0 fu y1 y2 y3 (y4 + 1) I J))) else some (y3, I, J))
def f84 (a0 : Nat) (x1 : Int32) (I : Nat → Nat → Int32) (J : Nat → Nat → Int64) : Option (Int32 × (Nat → Nat → Int32) × (Nat → Nat → Int64)) := f84_14 a0 pm_FU x1 (pm_at (I (a0 + 3)) 8 x1) 0 0 I J
theorem d84_14 {X : (Nat → Int32) × Nat} {d : Nat} {P : Nat → Nat → Value} {e r k r2 k2 : Nat} {a0 : Nat} (hw : pm_W P r k r2 k2) (hy0 : pm_rgT P a0) : ∀ (fu : Nat) {y1 y2 y3 y4 : Int32} {I : Nat → Nat → Int32} {J : Nat → Nat → Int64} {q : Int32 × (Nat → Nat → Int32) × (Nat → Nat → Int64)} (h : f84_14 a0 fu y1 y2 y3 y4 I J = some q), pm_Fx X (d + 1) 84 14 [.ref a0, .int y1, .int y2, .int y3, .int y4] [] (I, J, P, pm_T0, e) (.inl (some (.int q.1))) (q.2.1, q.2.2, P, pm_T0, e) := by
  obtain ⟨hp, hw1, hw2, hw3, hw4, hw5, hw6, hw7, hw8, hw9, hw10, hw11⟩ := id hw
  have hwa := hw5.1
  have hwb := hw6.1
  have hwc := hw7.1
  have hwd := hw8.1
  obtain ⟨t0, ⟨t1, t2, t3, t4, t5, t6, t7⟩, u0, u1, u2, u3, u4, u5, u6⟩ := id hy0
  intro fu
  induction fu with
  | zero => intro y1 y2 y3 y4 I J q h; cases h
  | succ fu ih =>
    intro y1 y2 y3 y4 I J q h
    rw [f84_14] at h
    refine il4 c84_14 ?_
    refine al0 c84_16 ?_
    refine r_gi g84_17 (by first | rfl | assumption) rfl ?_
    refine r_icge (t := 59) c84_20 rfl (fun h1 => ?_) (fun h1 => ?_)
    · rw [if_neg (Int.not_lt.mpr h1)] at h
      refine il3 c84_59 ?_
      cases h
      exact r_ri c84_60 rt84 rfl rfl
    · rw [if_pos h1] at h
      refine il2 c84_23 ?_
      refine r_ifeq (t := 53) c84_24 rfl (fun h2 => ?_) (fun h2 => ?_)
      · rw [if_pos h2] at h
        refine ii4 c84_53 kI1 rfl ?_
        refine r_go (t := 14) c84_56 rfl ?_
        exact ih h
      · rw [if_neg h2] at h
        refine il4 c84_27 ?_
        refine il1 c84_29 ?_
        refine r_iceq (t := 53) c84_30 rfl (fun h3 => ?_) (fun h3 => ?_)
        · rw [if_pos h3] at h
          refine ii4 c84_53 kI1 rfl ?_
          refine r_go (t := 14) c84_56 rfl ?_
          exact ih h
        · rw [if_neg h3] at h
          refine al0 c84_33 ?_
          refine r_gr g84_34 (by first | rfl | assumption) rfl (by first | exact hp _ _ _ rfl | assumption) ?_
          refine il4 c84_37 ?_
          refine cv2 q84_39 (s160 (by first | rfl | assumption) (by first | decide | assumption)) rfl ?_
          refine il2 c84_42 ?_
          refine r_icne (t := 53) c84_43 rfl (fun h4 => ?_) (fun h4 => ?_)
          · rw [if_neg h4] at h
            refine ii4 c84_53 kI1 rfl ?_
            refine r_go (t := 14) c84_56 rfl ?_
            exact ih h
          · rw [if_pos h4] at h
            refine il3 c84_46 ?_
            refine r_ic c84_47 kI1 ?_
            refine il4 c84_48 ?_
            refine r_ishl c84_50 ?_
            refine r_ior c84_51 ?_
            refine is3 c84_52 rfl ?_
            refine ii4 c84_53 kI1 rfl ?_
            refine r_go (t := 14) c84_56 rfl ?_
            exact ih h
theorem d84 {X : (Nat → Int32) × Nat} {d : Nat} {I : Nat → Nat → Int32} {J : Nat → Nat → Int64} {P : Nat → Nat → Value} {e r k r2 k2 : Nat} {a0 : Nat} {x1 : Int32} {q : Int32 × (Nat → Nat → Int32) × (Nat → Nat → Int64)} (hw : pm_W P r k r2 k2) (hy0 : pm_rgT P a0) (h : f84 a0 x1 I J = some q) : pm_Fn X (d + 1) 84 1 [.ref a0, .int x1] (I, J, P, pm_T0, e) (.inl (some (.int q.1))) (q.2.1, q.2.2, P, pm_T0, e) := by
  obtain ⟨hp, hw1, hw2, hw3, hw4, hw5, hw6, hw7, hw8, hw9, hw10, hw11⟩ := id hw
  have hwa := hw5.1
  have hwb := hw6.1
  have hwc := hw7.1
  have hwd := hw8.1
  obtain ⟨t0, ⟨t1, t2, t3, t4, t5, t6, t7⟩, u0, u1, u2, u3, u4, u5, u6⟩ := id hy0
  unfold f84 at h
  refine fn_v rc84 (c := 5) (nf := 11) (by first | rfl | assumption) ml84 rfl rfl rfl rfl ?_
  refine al0 c84_0 ?_
  refine r_gr g84_1 (by first | rfl | assumption) rfl (by first | exact hp _ _ _ rfl | assumption) ?_
  refine il1 c84_4 ?_
  refine cv2 q84_5 (s160 (by first | rfl | assumption) (by first | decide | assumption)) rfl ?_
  refine is2 c84_8 rfl ?_
  refine r_ic c84_9 kI0 ?_
  refine is3 c84_10 rfl ?_
  refine r_ic c84_11 kI0 ?_
  refine is4 c84_12 rfl ?_
  exact d84_14 hw hy0 pm_FU h
def f57 (r : Nat) (x1 : Int32) (I : Nat → Nat → Int32) (J : Nat → Nat → Int64) : Option (Int32 × (Nat → Nat → Int32) × (Nat → Nat → Int64)) := (f42 r x1 I J).bind (fun (v1, I2, J3) => some (pm_max 0 ((pm_at (I (r + 7)) 5 x1) - v1), I2, J3))
theorem d57 {X : (Nat → Int32) × Nat} {d : Nat} {I : Nat → Nat → Int32} {J : Nat → Nat → Int64} {P : Nat → Nat → Value} {e r k r2 k2 : Nat} {x1 : Int32} {q : Int32 × (Nat → Nat → Int32) × (Nat → Nat → Int64)} (hw : pm_W P r k r2 k2)  (h : f57 r x1 I J = some q) : pm_Fn X (d + 4) 57 1 [.ref 3, .int x1] (I, J, P, pm_T0, e) (.inl (some (.int q.1))) (q.2.1, q.2.2, P, pm_T0, e) := by
  obtain ⟨hp, hw1, hw2, hw3, hw4, hw5, hw6, hw7, hw8, hw9, hw10, hw11⟩ := id hw
  have hwa := hw5.1
  have hwb := hw6.1
  have hwc := hw7.1
  have hwd := hw8.1
  unfold f57 at h
  refine fn_v rc57 (c := 3) (nf := 7) (by first | rfl | assumption) ml57 rfl rfl rfl rfl ?_
  refine r_ic c57_0 kI0 ?_
  refine al0 c57_1 ?_
  refine r_gr g57_2 (by first | rfl | assumption) rfl (by first | exact hp _ _ _ rfl | assumption) ?_
  refine il1 c57_5 ?_
  refine cv2 q57_6 (s94 (by assumption)) rfl ?_
  refine al0 c57_9 ?_
  refine il1 c57_10 ?_
  obtain ⟨⟨v1, I2, J3⟩, e4, h⟩ := pm_bd_sp h
  dsimp only at h
  refine cv2 q57_11 (v := .int v1) (μ1 := (I2, J3, P, pm_T0, e)) (d42 hw e4) rfl ?_
  refine r_isub c57_14 ?_
  refine cv2 q57_15 s362 rfl ?_
  cases h
  exact r_ri c57_18 rt57 rfl rfl
def f85 (a0 : Nat) (x1 : Int32) (x2 : Int32) (I : Nat → Nat → Int32) (J : Nat → Nat → Int64) : Option (Bool × (Nat → Nat → Int32) × (Nat → Nat → Int64)) := (f84 a0 x1 I J).bind (fun (v1, I2, J3) => (if ((v1 >>> (x2 &&& 31)) &&& 1) = 1 then some (true, I2, J3) else some (false, I2, J3)))
theorem d85 {X : (Nat → Int32) × Nat} {d : Nat} {I : Nat → Nat → Int32} {J : Nat → Nat → Int64} {P : Nat → Nat → Value} {e r k r2 k2 : Nat} {a0 : Nat} {x1 : Int32} {x2 : Int32} {q : Bool × (Nat → Nat → Int32) × (Nat → Nat → Int64)} (hw : pm_W P r k r2 k2) (hy0 : pm_rgT P a0) (h : f85 a0 x1 x2 I J = some q) : pm_Fn X (d + 2) 85 1 [.ref a0, .int x1, .int x2] (I, J, P, pm_T0, e) (.inl (some (.int (pm_bi q.1)))) (q.2.1, q.2.2, P, pm_T0, e) := by
  obtain ⟨hp, hw1, hw2, hw3, hw4, hw5, hw6, hw7, hw8, hw9, hw10, hw11⟩ := id hw
  have hwa := hw5.1
  have hwb := hw6.1
  have hwc := hw7.1
  have hwd := hw8.1
  obtain ⟨t0, ⟨t1, t2, t3, t4, t5, t6, t7⟩, u0, u1, u2, u3, u4, u5, u6⟩ := id hy0
  unfold f85 at h
  refine fn_v rc85 (c := 5) (nf := 11) (by first | rfl | assumption) ml85 rfl rfl rfl rfl ?_
  refine al0 c85_0 ?_
  refine il1 c85_1 ?_
  obtain ⟨⟨v1, I2, J3⟩, e4, h⟩ := pm_bd_sp h
  dsimp only at h
  refine cv2 q85_2 (v := .int v1) (μ1 := (I2, J3, P, pm_T0, e)) (d84 hw (by first | rfl | assumption | decide) e4) rfl ?_
  refine il2 c85_5 ?_
  refine r_ishr c85_6 ?_
  refine r_ic c85_7 kI1 ?_
  refine r_iand c85_8 ?_
  refine r_ic c85_9 kI1 ?_
  refine r_icne (t := 17) c85_10 rfl (fun h5 => ?_) (fun h5 => ?_)
  · rw [if_neg h5] at h
    refine r_ic c85_17 kI0 ?_
    cases h
    exact r_rz c85_18 rt85 (by decide) rfl rfl
  · rw [if_pos h5] at h
    refine r_ic c85_13 kI1 ?_
    refine r_go (t := 18) c85_14 rfl ?_
    cases h
    exact r_rz c85_18 rt85 (by decide) rfl rfl
