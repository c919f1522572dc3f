/-! FRAMES: which cells a function may change -/
theorem fr_6 {I : Nat → Nat → Int32} {J : Nat → Nat → Int64} : pm_fr [] [(23, 3), (23, 4)] I J (f6 I J) := by
  unfold f6
  exact fr_ltI (ag_w ag_refl (Or.inr (List.mem_of_elem_eq_true rfl))) (fun I1 hI1 => fr_ltI (ag_w hI1 (Or.inr (List.mem_of_elem_eq_true rfl))) (fun I2 hI2 => fr_some hI2 aj_refl))
theorem fr_9 {a0 : Nat} {I : Nat → Nat → Int32} {J : Nat → Nat → Int64} : pm_fr [] [(a0, 2)] I J (f9 a0 I J) := by
  unfold f9
  exact fr_ltI (ag_w ag_refl (Or.inr (by simp))) (fun I1 hI1 => fr_some hI1 aj_refl)
theorem fr_12_2 {a0 : Nat} : ∀ (fu : Nat) (y1 : Int32) (y2 : Int32) (I : (Nat → Nat → Int32)) (J : (Nat → Nat → Int64)), pm_fr [] [] I J (f12_2 a0 fu y1 y2 I J) := by
  intro fu
  induction fu with
  | zero => intros; intro _ _ _ h; cases h
  | succ fu ih =>
    intro y1 y2 I J
    rw [f12_2]
    exact fr_ite (fr_ite (fr_some ag_refl aj_refl) (fr_tl (ih _ _ _ _) (fun _ h => h) (fun _ h => h) ag_refl aj_refl)) (fr_some ag_refl aj_refl)
theorem fr_12 {a0 : Nat} {x1 : Int32} {I : Nat → Nat → Int32} {J : Nat → Nat → Int64} : pm_fr [] [] I J (f12 a0 x1 I J) := by
  unfold f12
  exact fr_tl (fr_12_2 _ _ _ _ _) (fun _ h => h) (fun _ h => h) ag_refl aj_refl
theorem fr_128_L  : ∀ (fu : Nat) (z1 : Nat) (y1 : Int32) (y2 : Int32) (I : (Nat → Nat → Int32)) (J : (Nat → Nat → Int64)), pm_fr [] [(1, 3), (1, 4), (1, 5), (1, 6)] I J (f128_L fu z1 y1 y2 I J) := by
  intro fu
  induction fu with
  | zero => intros; intro _ _ _ h; cases h
  | succ fu ih =>
    intro lab
    rcases lab with _ | lab
    · intro y1 _ I J
      rw [f128_L]
      exact fr_ite (fr_ite (fr_ltI (ag_w ag_refl (Or.inr (List.mem_of_elem_eq_true rfl))) (fun I23 hI23 => fr_tl (ih _ _ _ _ _) (fun _ h => h) (fun _ h => h) hI23 aj_refl)) (fr_ltI (ag_w ag_refl (Or.inr (List.mem_of_elem_eq_true rfl))) (fun I13 hI13 => fr_ite (fr_ltI (ag_w hI13 (Or.inr (List.mem_of_elem_eq_true rfl))) (fun I19 hI19 => fr_ltI (ag_w hI19 (Or.inr (List.mem_of_elem_eq_true rfl))) (fun I20 hI20 => fr_ite (fr_tl (ih _ _ _ _ _) (fun _ h => h) (fun _ h => h) hI20 aj_refl) (fr_ite (fr_tl (ih _ _ _ _ _) (fun _ h => h) (fun _ h => h) hI20 aj_refl) (fr_tl (ih _ _ _ _ _) (fun _ h => h) (fun _ h => h) hI20 aj_refl))))) (fr_ltI (ag_w hI13 (Or.inr (List.mem_of_elem_eq_true rfl))) (fun I15 hI15 => fr_ltI (ag_w hI15 (Or.inr (List.mem_of_elem_eq_true rfl))) (fun I16 hI16 => fr_ite (fr_tl (ih _ _ _ _ _) (fun _ h => h) (fun _ h => h) hI16 aj_refl) (fr_ite (fr_tl (ih _ _ _ _ _) (fun _ h => h) (fun _ h => h) hI16 aj_refl) (fr_tl (ih _ _ _ _ _) (fun _ h => h) (fun _ h => h) hI16 aj_refl)))))))) (fr_ltI (ag_w ag_refl (Or.inr (List.mem_of_elem_eq_true rfl))) (fun I2 hI2 => fr_ite (fr_ltI (ag_w hI2 (Or.inr (List.mem_of_elem_eq_true rfl))) (fun I8 hI8 => fr_ltI (ag_w hI8 (Or.inr (List.mem_of_elem_eq_true rfl))) (fun I9 hI9 => fr_ite (fr_tl (ih _ _ _ _ _) (fun _ h => h) (fun _ h => h) hI9 aj_refl) (fr_ite (fr_tl (ih _ _ _ _ _) (fun _ h => h) (fun _ h => h) hI9 aj_refl) (fr_tl (ih _ _ _ _ _) (fun _ h => h) (fun _ h => h) hI9 aj_refl))))) (fr_ltI (ag_w hI2 (Or.inr (List.mem_of_elem_eq_true rfl))) (fun I4 hI4 => fr_ltI (ag_w hI4 (Or.inr (List.mem_of_elem_eq_true rfl))) (fun I5 hI5 => fr_ite (fr_tl (ih _ _ _ _ _) (fun _ h => h) (fun _ h => h) hI5 aj_refl) (fr_ite (fr_tl (ih _ _ _ _ _) (fun _ h => h) (fun _ h => h) hI5 aj_refl) (fr_tl (ih _ _ _ _ _) (fun _ h => h) (fun _ h => h) hI5 aj_refl)))))))
    · intro y1 y2 I J
      rw [f128_L]
      exact fr_ite (fr_ite (fr_some ag_refl aj_refl) (fr_ite (fr_ite (fr_ltI (ag_w ag_refl (Or.inr (List.mem_of_elem_eq_true rfl))) (fun I29 hI29 => fr_ltI (ag_w hI29 (Or.inr (List.mem_of_elem_eq_true rfl))) (fun I30 hI30 => fr_tl (ih _ _ _ _ _) (fun _ h => h) (fun _ h => h) hI30 aj_refl))) (fr_ltI (ag_w ag_refl (Or.inr (List.mem_of_elem_eq_true rfl))) (fun I28 hI28 => fr_tl (ih _ _ _ _ _) (fun _ h => h) (fun _ h => h) hI28 aj_refl))) (fr_some ag_refl aj_refl))) (fr_some ag_refl aj_refl)
theorem fr_128 {I : Nat → Nat → Int32} {J : Nat → Nat → Int64} : pm_fr [] [(1, 3), (1, 4), (1, 5), (1, 6)] I J (f128 I J) := by
  unfold f128
  exact fr_ltI (ag_w ag_refl (Or.inr (List.mem_of_elem_eq_true rfl))) (fun I1 hI1 => fr_tl (fr_128_L _ _ _ _ _ _) (fun _ h => h) (fun _ h => h) hI1 aj_refl)
theorem fr_133 {x1 : Int32} {I : Nat → Nat → Int32} {J : Nat → Nat → Int64} : pm_fr [] [(1, 3), (1, 7), (1, 8)] I J (f133 x1 I J) := by
  unfold f133
  exact fr_ite (fr_ltI (ag_w ag_refl (Or.inr (List.mem_of_elem_eq_true rfl))) (fun I3 hI3 => fr_ltI (ag_w hI3 (Or.inr (List.mem_of_elem_eq_true rfl))) (fun I4 hI4 => fr_ltI (ag_w hI4 (Or.inr (List.mem_of_elem_eq_true rfl))) (fun I5 hI5 => fr_some hI5 aj_refl)))) (fr_ltI (ag_w ag_refl (Or.inr (List.mem_of_elem_eq_true rfl))) (fun I2 hI2 => fr_some hI2 aj_refl))
theorem fr_134 {x1 : Int32} {x2 : Int32} {I : Nat → Nat → Int32} {J : Nat → Nat → Int64} : pm_fr [] [(1, 3), (1, 4), (1, 5), (1, 6), (1, 7), (1, 8)] I J (f134 x1 x2 I J) := by
  unfold f134
  exact fr_ite (fr_ite (fr_bd fr_133 (fun _ h => h) (zt_subF rfl) ag_refl aj_refl (fun ov3 I4 J5 hI4 hJ5 => fr_some hI4 hJ5)) (fr_ite (fr_bd fr_133 (fun _ h => h) (zt_subF rfl) ag_refl aj_refl (fun ov12 I13 J14 hI13 hJ14 => fr_some hI13 hJ14)) (fr_bd fr_128 (fun _ h => h) (zt_subF rfl) ag_refl aj_refl (fun ov8 I9 J10 hI9 hJ10 => fr_some hI9 hJ10)))) (fr_bd fr_133 (fun _ h => h) (zt_subF rfl) ag_refl aj_refl (fun ov16 I17 J18 hI17 hJ18 => fr_some hI17 hJ18))
theorem fr_135 {x1 : Int32} {I : Nat → Nat → Int32} {J : Nat → Nat → Int64} : pm_fr [] [(1, 3), (1, 4), (1, 5), (1, 6), (1, 7), (1, 8)] I J (f135 x1 I J) := by
  unfold f135
  exact fr_ite (fr_bd fr_128 (fun _ h => h) (zt_subF rfl) ag_refl aj_refl (fun ov6 I7 J8 hI7 hJ8 => fr_some hI7 hJ8)) (fr_bd fr_133 (fun _ h => h) (zt_subF rfl) ag_refl aj_refl (fun ov2 I3 J4 hI3 hJ4 => fr_some hI3 hJ4))
theorem fr_11 {a0 : Nat} {I : Nat → Nat → Int32} {J : Nat → Nat → Int64} : pm_fr [a0 + 1, a0 + 2] [(1, 3), (1, 4), (1, 5), (1, 6), (1, 7), (1, 8), (a0, 2)] I J (f11 a0 I J) := by
  unfold f11
  exact fr_ite (fr_ite (fr_bd fr_133 (fun _ h => absurd h (List.not_mem_nil)) (by first | (simp; done) | (split <;> simp)) ag_refl aj_refl (fun ov3 I4 J5 hI4 hJ5 => fr_some hI4 hJ5)) (fr_bd fr_12 (fun _ h => absurd h (List.not_mem_nil)) (fun _ h => absurd h (List.not_mem_nil)) ag_refl aj_refl (fun ov7 I8 J9 hI8 hJ9 => fr_ite (fr_bd fr_133 (fun _ h => absurd h (List.not_mem_nil)) (by first | (simp; done) | (split <;> simp)) hI8 hJ9 (fun ov32 I33 J34 hI33 hJ34 => fr_some hI33 hJ34)) (fr_ite (fr_ltI (ag_pw hI8 (by simp)) (fun I13 hI13 => fr_bd fr_128 (fun _ h => absurd h (List.not_mem_nil)) (by first | (simp; done) | (split <;> simp)) hI13 hJ9 (fun ov14 I15 J16 hI15 hJ16 => fr_bd fr_134 (fun _ h => absurd h (List.not_mem_nil)) (by first | (simp; done) | (split <;> simp)) hI15 hJ16 (fun ov18 I19 J20 hI19 hJ20 => fr_ltI (ag_pw hI19 (by simp)) (fun I22 hI22 => fr_ltI (ag_w hI22 (Or.inr (by simp))) (fun I23 hI23 => fr_bd fr_135 (fun _ h => absurd h (List.not_mem_nil)) (by first | (simp; done) | (split <;> simp)) hI23 hJ20 (fun ov24 I25 J26 hI25 hJ26 => fr_some hI25 hJ26))))))) (fr_bd fr_133 (fun _ h => absurd h (List.not_mem_nil)) (by first | (simp; done) | (split <;> simp)) hI8 hJ9 (fun ov28 I29 J30 hI29 hJ30 => fr_some hI29 hJ30)))))) (fr_bd fr_133 (fun _ h => absurd h (List.not_mem_nil)) (by first | (simp; done) | (split <;> simp)) ag_refl aj_refl (fun ov36 I37 J38 hI37 hJ38 => fr_some hI37 hJ38))
theorem fr_10_7 {a0 : Nat} : ∀ (fu : Nat) (y2 : Int32) (I : (Nat → Nat → Int32)) (J : (Nat → Nat → Int64)), pm_fr [a0 + 1, a0 + 2] [(1, 3), (1, 4), (1, 5), (1, 6), (1, 7), (1, 8), (a0, 2)] I J (f10_7 a0 fu y2 I J) := by
  intro fu
  induction fu with
  | zero => intros; intro _ _ _ h; cases h
  | succ fu ih =>
    intro y2 I J
    rw [f10_7]
    exact fr_ite (fr_some ag_refl aj_refl) (fr_ite (fr_bd fr_11 (by first | (simp; done) | (split <;> simp)) (by first | (simp; done) | (split <;> simp)) ag_refl aj_refl (fun ov3 I4 J5 hI4 hJ5 => fr_tl (ih _ _ _) (fun _ h => h) (fun _ h => h) hI4 hJ5)) (fr_some ag_refl aj_refl))
theorem fr_10 {a0 : Nat} {I : Nat → Nat → Int32} {J : Nat → Nat → Int64} : pm_fr [a0 + 1, a0 + 2] [(1, 3), (1, 4), (1, 5), (1, 6), (1, 7), (1, 8), (a0, 2)] I J (f10 a0 I J) := by
  unfold f10
  exact fr_ltI (ag_w ag_refl (Or.inr (by simp))) (fun I1 hI1 => fr_tl (fr_10_7 _ _ _ _) (by first | (simp; done) | (split <;> simp)) (by first | (simp; done) | (split <;> simp)) hI1 aj_refl)
theorem fr_14_2 {a0 : Nat} : ∀ (fu : Nat) (y1 : Int32) (y2 : Int32) (I : (Nat → Nat → Int32)) (J : (Nat → Nat → Int64)), pm_fr [] [] I J (f14_2 a0 fu y1 y2 I J) := by
  intro fu
  induction fu with
  | zero => intros; intro _ _ _ h; cases h
  | succ fu ih =>
    intro y1 y2 I J
    rw [f14_2]
    exact fr_ite (fr_ite (fr_tl (ih _ _ _ _) (fun _ h => h) (fun _ h => h) ag_refl aj_refl) (fr_some ag_refl aj_refl)) (fr_some ag_refl aj_refl)
theorem fr_14 {a0 : Nat} {x1 : Int32} {I : Nat → Nat → Int32} {J : Nat → Nat → Int64} : pm_fr [] [] I J (f14 a0 x1 I J) := by
  unfold f14
  exact fr_tl (fr_14_2 _ _ _ _ _) (fun _ h => h) (fun _ h => h) ag_refl aj_refl
theorem fr_17 {a0 : Nat} {x1 : Int32} {I : Nat → Nat → Int32} {J : Nat → Nat → Int64} : pm_fr [a0 + 1] [(a0, 2)] I J (f17 a0 x1 I J) := by
  unfold f17
  exact fr_ite (fr_ltI (ag_pw ag_refl (by simp)) (fun I2 hI2 => fr_ltI (ag_w hI2 (Or.inr (by simp))) (fun I3 hI3 => fr_some hI3 aj_refl))) (fr_some ag_refl aj_refl)
theorem fr_16 {a0 : Nat} {I : Nat → Nat → Int32} {J : Nat → Nat → Int64} : pm_fr [a0 + 1] [(a0, 2)] I J (f16 a0 I J) := by
  unfold f16
  exact fr_ltI (ag_w ag_refl (Or.inr (by simp))) (fun I1 hI1 => fr_bd fr_17 (by first | (simp; done) | (split <;> simp)) (by first | (simp; done) | (split <;> simp)) hI1 aj_refl (fun ov2 I3 J4 hI3 hJ4 => fr_bd fr_17 (by first | (simp; done) | (split <;> simp)) (by first | (simp; done) | (split <;> simp)) hI3 hJ4 (fun ov6 I7 J8 hI7 hJ8 => fr_bd fr_17 (by first | (simp; done) | (split <;> simp)) (by first | (simp; done) | (split <;> simp)) hI7 hJ8 (fun ov10 I11 J12 hI11 hJ12 => fr_bd fr_17 (by first | (simp; done) | (split <;> simp)) (by first | (simp; done) | (split <;> simp)) hI11 hJ12 (fun ov14 I15 J16 hI15 hJ16 => fr_bd fr_17 (by first | (simp; done) | (split <;> simp)) (by first | (simp; done) | (split <;> simp)) hI15 hJ16 (fun ov18 I19 J20 hI19 hJ20 => fr_bd fr_17 (by first | (simp; done) | (split <;> simp)) (by first | (simp; done) | (split <;> simp)) hI19 hJ20 (fun ov22 I23 J24 hI23 hJ24 => fr_bd fr_17 (by first | (simp; done) | (split <;> simp)) (by first | (simp; done) | (split <;> simp)) hI23 hJ24 (fun ov26 I27 J28 hI27 hJ28 => fr_some hI27 hJ28))))))))
theorem fr_19 {x0 : Int32} {x1 : Int32} {x2 : Int32} {I : Nat → Nat → Int32} {J : Nat → Nat → Int64} : pm_fr [] [] I J (f19 x0 x1 x2 I J) := by
  unfold f19
  exact fr_ite (fr_some ag_refl aj_refl) (fr_ite (fr_some ag_refl aj_refl) (fr_ite (fr_some ag_refl aj_refl) (fr_ite (fr_ite (fr_some ag_refl aj_refl) (fr_gd (fr_some ag_refl aj_refl))) (fr_ite (fr_some ag_refl aj_refl) (fr_some ag_refl aj_refl)))))
theorem fr_18_4 {a0 : Nat} : ∀ (fu : Nat) (y2 : Int32) (y3 : Int32) (I : (Nat → Nat → Int32)) (J : (Nat → Nat → Int64)), pm_fr [a0 + 2] [] I J (f18_4 a0 fu y2 y3 I J) := by
  intro fu
  induction fu with
  | zero => intros; intro _ _ _ h; cases h
  | succ fu ih =>
    intro y2 y3 I J
    rw [f18_4]
    exact fr_ite (fr_ite (fr_gd (fr_ite (fr_ite (fr_tl (ih _ _ _ _) (fun _ h => h) (fun _ h => h) ag_refl aj_refl) (fr_ite (fr_ite (fr_gd (fr_ltI (ag_w ag_refl (Or.inl (by simp))) (fun I9 hI9 => fr_tl (ih _ _ _ _) (fun _ h => h) (fun _ h => h) hI9 aj_refl))) (fr_gd (fr_ltI (ag_w ag_refl (Or.inl (by simp))) (fun I11 hI11 => fr_tl (ih _ _ _ _) (fun _ h => h) (fun _ h => h) hI11 aj_refl)))) (fr_tl (ih _ _ _ _) (fun _ h => h) (fun _ h => h) ag_refl aj_refl))) (fr_ite (fr_ite (fr_tl (ih _ _ _ _) (fun _ h => h) (fun _ h => h) ag_refl aj_refl) (fr_ite (fr_tl (ih _ _ _ _) (fun _ h => h) (fun _ h => h) ag_refl aj_refl) (fr_gd (fr_gd (fr_bd fr_19 (fun _ h => absurd h (List.not_mem_nil)) (fun _ h => h) ag_refl aj_refl (fun ov24 I25 J26 hI25 hJ26 => fr_gd (fr_ltI (ag_w hI25 (Or.inl (by simp))) (fun I29 hI29 => fr_tl (ih _ _ _ _) (fun _ h => h) (fun _ h => h) hI29 hJ26)))))))) (fr_ite (fr_tl (ih _ _ _ _) (fun _ h => h) (fun _ h => h) ag_refl aj_refl) (fr_ite (fr_ite (fr_gd (fr_ltI (ag_w ag_refl (Or.inl (by simp))) (fun I17 hI17 => fr_tl (ih _ _ _ _) (fun _ h => h) (fun _ h => h) hI17 aj_refl))) (fr_gd (fr_ltI (ag_w ag_refl (Or.inl (by simp))) (fun I19 hI19 => fr_tl (ih _ _ _ _) (fun _ h => h) (fun _ h => h) hI19 aj_refl)))) (fr_tl (ih _ _ _ _) (fun _ h => h) (fun _ h => h) ag_refl aj_refl)))))) (fr_some ag_refl aj_refl)) (fr_some ag_refl aj_refl)
theorem fr_18 {a0 : Nat} {I : Nat → Nat → Int32} {J : Nat → Nat → Int64} : pm_fr [a0 + 2] [] I J (f18 a0 I J) := by
  unfold f18
  exact fr_tl (fr_18_4 _ _ _ _ _) (by first | (simp; done) | (split <;> simp)) (fun _ h => h) ag_refl aj_refl
theorem fr_132_28 {s1 : Nat} : ∀ (fu : Nat) (y2 : Int32) (I : (Nat → Nat → Int32)) (J : (Nat → Nat → Int64)), pm_fr [] [] I J (f132_28 s1 fu y2 I J) := by
  intro fu
  induction fu with
  | zero => intros; intro _ _ _ h; cases h
  | succ fu ih =>
    intro y2 I J
    rw [f132_28]
    exact fr_ite (fr_gd (fr_ite (fr_tl (ih _ _ _) (fun _ h => h) (fun _ h => h) ag_refl aj_refl) (fr_some ag_refl aj_refl))) (fr_some ag_refl aj_refl)
theorem fr_132 {s1 : Nat} {I : Nat → Nat → Int32} {J : Nat → Nat → Int64} : pm_fr [] [] I J (f132 s1 I J) := by
  unfold f132
  exact fr_ite (fr_ite (fr_tl (fr_132_28 _ _ _ _) (fun _ h => h) (fun _ h => h) ag_refl aj_refl) (fr_some ag_refl aj_refl)) (fr_some ag_refl aj_refl)
theorem fr_24 {I : Nat → Nat → Int32} {J : Nat → Nat → Int64} : pm_fr [] [] I J (f24 I J) := by
  unfold f24
  exact fr_bd fr_132 (fun _ h => h) (fun _ h => h) ag_refl aj_refl (fun ov1 I2 J3 hI2 hJ3 => fr_ite (fr_some hI2 hJ3) (fr_bd fr_132 (fun _ h => h) (fun _ h => h) hI2 hJ3 (fun ov6 I7 J8 hI7 hJ8 => fr_ite (fr_some hI7 hJ8) (fr_some hI7 hJ8))))
theorem fr_25 {I : Nat → Nat → Int32} {J : Nat → Nat → Int64} : pm_fr [] [] I J (f25 I J) := by
  unfold f25
  exact fr_bd fr_132 (fun _ h => h) (fun _ h => h) ag_refl aj_refl (fun ov1 I2 J3 hI2 hJ3 => fr_ite (fr_some hI2 hJ3) (fr_bd fr_132 (fun _ h => h) (fun _ h => h) hI2 hJ3 (fun ov6 I7 J8 hI7 hJ8 => fr_ite (fr_some hI7 hJ8) (fr_bd fr_132 (fun _ h => h) (fun _ h => h) hI7 hJ8 (fun ov11 I12 J13 hI12 hJ13 => fr_ite (fr_some hI12 hJ13) (fr_bd fr_132 (fun _ h => h) (fun _ h => h) hI12 hJ13 (fun ov16 I17 J18 hI17 hJ18 => fr_ite (fr_some hI17 hJ18) (fr_bd fr_132 (fun _ h => h) (fun _ h => h) hI17 hJ18 (fun ov21 I22 J23 hI22 hJ23 => fr_ite (fr_some hI22 hJ23) (fr_bd fr_132 (fun _ h => h) (fun _ h => h) hI22 hJ23 (fun ov26 I27 J28 hI27 hJ28 => fr_ite (fr_some hI27 hJ28) (fr_bd fr_132 (fun _ h => h) (fun _ h => h) hI27 hJ28 (fun ov31 I32 J33 hI32 hJ33 => fr_ite (fr_some hI32 hJ33) (fr_bd fr_132 (fun _ h => h) (fun _ h => h) hI32 hJ33 (fun ov36 I37 J38 hI37 hJ38 => fr_ite (fr_some hI37 hJ38) (fr_some hI37 hJ38))))))))))))))))
theorem fr_g21 {a0 : Nat} : ∀ (fu : Nat) (z1 : Nat) (z2 : Nat) (x2 : Int32) (y3 : Int32) (I : (Nat → Nat → Int32)) (J : (Nat → Nat → Int64)), pm_fr [a0 + 1] [(1, 3), (1, 4), (1, 5), (1, 6), (1, 7), (1, 8), (a0, 2)] I J (g21 a0 fu z1 z2 x2 y3 I J) := by
  intro fu
  induction fu with
  | zero => intros; intro _ _ _ h; cases h
  | succ fu ih =>
    intro dep lab
    rcases dep with _ | dep
    · intros; intro _ _ _ h; cases h
    · rcases lab with _ | _ | _ | _ | lab
      · intro x2 _ I J
        rw [g21]
        exact fr_bd (ih _ _ _ _ _ _) (fun _ h => h) (fun _ h => h) ag_refl aj_refl (fun ov1 I2 J3 hI2 hJ3 => fr_tl (ih _ _ _ _ _ _) (fun _ h => h) (fun _ h => h) hI2 hJ3)
      · intro x2 _ I J
        rw [g21]
        exact fr_bd (ih _ _ _ _ _ _) (fun _ h => h) (fun _ h => h) ag_refl aj_refl (fun ov1 I2 J3 hI2 hJ3 => fr_tl (ih _ _ _ _ _ _) (fun _ h => h) (fun _ h => h) hI2 hJ3)
      · intro x2 _ I J
        rw [g21]
        exact fr_bd fr_24 (fun _ h => absurd h (List.not_mem_nil)) (fun _ h => absurd h (List.not_mem_nil)) ag_refl aj_refl (fun ov1 I2 J3 hI2 hJ3 => fr_bd fr_25 (fun _ h => absurd h (List.not_mem_nil)) (fun _ h => absurd h (List.not_mem_nil)) hI2 hJ3 (fun ov5 I6 J7 hI6 hJ7 => fr_ite (fr_bd fr_134 (fun _ h => absurd h (List.not_mem_nil)) (by first | (simp; done) | (split <;> simp)) hI6 hJ7 (fun ov117 I118 J119 hI118 hJ119 => fr_bd fr_17 (by first | (simp; done) | (split <;> simp)) (by first | (simp; done) | (split <;> simp)) hI118 hJ119 (fun ov121 I122 J123 hI122 hJ123 => fr_some hI122 hJ123))) (fr_ite (fr_ite (fr_ite (fr_ite (fr_ite (fr_bd fr_128 (fun _ h => absurd h (List.not_mem_nil)) (by first | (simp; done) | (split <;> simp)) hI6 hJ7 (fun ov89 I90 J91 hI90 hJ91 => fr_bd (ih _ _ _ _ _ _) (fun _ h => h) (fun _ h => h) hI90 hJ91 (fun ov93 I94 J95 hI94 hJ95 => fr_bd fr_135 (fun _ h => absurd h (List.not_mem_nil)) (by first | (simp; done) | (split <;> simp)) hI94 hJ95 (fun ov97 I98 J99 hI98 hJ99 => fr_some hI98 hJ99)))) (fr_bd fr_128 (fun _ h => absurd h (List.not_mem_nil)) (by first | (simp; done) | (split <;> simp)) hI6 hJ7 (fun ov61 I62 J63 hI62 hJ63 => fr_bd fr_135 (fun _ h => absurd h (List.not_mem_nil)) (by first | (simp; done) | (split <;> simp)) hI62 hJ63 (fun ov65 I66 J67 hI66 hJ67 => fr_bd (ih _ _ _ _ _ _) (fun _ h => h) (fun _ h => h) hI66 hJ67 (fun ov69 I70 J71 hI70 hJ71 => fr_bd fr_135 (fun _ h => absurd h (List.not_mem_nil)) (by first | (simp; done) | (split <;> simp)) hI70 hJ71 (fun ov73 I74 J75 hI74 hJ75 => fr_bd (ih _ _ _ _ _ _) (fun _ h => h) (fun _ h => h) hI74 hJ75 (fun ov77 I78 J79 hI78 hJ79 => fr_bd fr_135 (fun _ h => absurd h (List.not_mem_nil)) (by first | (simp; done) | (split <;> simp)) hI78 hJ79 (fun ov81 I82 J83 hI82 hJ83 => fr_bd fr_17 (by first | (simp; done) | (split <;> simp)) (by first | (simp; done) | (split <;> simp)) hI82 hJ83 (fun ov85 I86 J87 hI86 hJ87 => fr_some hI86 hJ87))))))))) (fr_bd fr_133 (fun _ h => absurd h (List.not_mem_nil)) (by first | (simp; done) | (split <;> simp)) hI6 hJ7 (fun ov101 I102 J103 hI102 hJ103 => fr_some hI102 hJ103))) (fr_bd fr_133 (fun _ h => absurd h (List.not_mem_nil)) (by first | (simp; done) | (split <;> simp)) hI6 hJ7 (fun ov105 I106 J107 hI106 hJ107 => fr_some hI106 hJ107))) (fr_ite (fr_ite (fr_bd fr_128 (fun _ h => absurd h (List.not_mem_nil)) (by first | (simp; done) | (split <;> simp)) hI6 hJ7 (fun ov42 I43 J44 hI43 hJ44 => fr_bd (ih _ _ _ _ _ _) (fun _ h => h) (fun _ h => h) hI43 hJ44 (fun ov46 I47 J48 hI47 hJ48 => fr_bd fr_135 (fun _ h => absurd h (List.not_mem_nil)) (by first | (simp; done) | (split <;> simp)) hI47 hJ48 (fun ov50 I51 J52 hI51 hJ52 => fr_some hI51 hJ52)))) (fr_bd fr_128 (fun _ h => absurd h (List.not_mem_nil)) (by first | (simp; done) | (split <;> simp)) hI6 hJ7 (fun ov14 I15 J16 hI15 hJ16 => fr_bd fr_135 (fun _ h => absurd h (List.not_mem_nil)) (by first | (simp; done) | (split <;> simp)) hI15 hJ16 (fun ov18 I19 J20 hI19 hJ20 => fr_bd (ih _ _ _ _ _ _) (fun _ h => h) (fun _ h => h) hI19 hJ20 (fun ov22 I23 J24 hI23 hJ24 => fr_bd fr_135 (fun _ h => absurd h (List.not_mem_nil)) (by first | (simp; done) | (split <;> simp)) hI23 hJ24 (fun ov26 I27 J28 hI27 hJ28 => fr_bd (ih _ _ _ _ _ _) (fun _ h => h) (fun _ h => h) hI27 hJ28 (fun ov30 I31 J32 hI31 hJ32 => fr_bd fr_135 (fun _ h => absurd h (List.not_mem_nil)) (by first | (simp; done) | (split <;> simp)) hI31 hJ32 (fun ov34 I35 J36 hI35 hJ36 => fr_bd fr_17 (by first | (simp; done) | (split <;> simp)) (by first | (simp; done) | (split <;> simp)) hI35 hJ36 (fun ov38 I39 J40 hI39 hJ40 => fr_some hI39 hJ40))))))))) (fr_bd fr_133 (fun _ h => absurd h (List.not_mem_nil)) (by first | (simp; done) | (split <;> simp)) hI6 hJ7 (fun ov54 I55 J56 hI55 hJ56 => fr_some hI55 hJ56)))) (fr_bd fr_128 (fun _ h => absurd h (List.not_mem_nil)) (by first | (simp; done) | (split <;> simp)) hI6 hJ7 (fun ov109 I110 J111 hI110 hJ111 => fr_bd fr_17 (by first | (simp; done) | (split <;> simp)) (by first | (simp; done) | (split <;> simp)) hI110 hJ111 (fun ov113 I114 J115 hI114 hJ115 => fr_some hI114 hJ115))))))
      · intro y2 y3 I J
        rw [g21]
        exact fr_ite (fr_ite (fr_ite (fr_bd fr_128 (fun _ h => absurd h (List.not_mem_nil)) (by first | (simp; done) | (split <;> simp)) ag_refl aj_refl (fun ov16 I17 J18 hI17 hJ18 => fr_bd (ih _ _ _ _ _ _) (fun _ h => h) (fun _ h => h) hI17 hJ18 (fun ov20 I21 J22 hI21 hJ22 => fr_bd fr_17 (by first | (simp; done) | (split <;> simp)) (by first | (simp; done) | (split <;> simp)) hI21 hJ22 (fun ov24 I25 J26 hI25 hJ26 => fr_tl (ih _ _ _ _ _ _) (fun _ h => h) (fun _ h => h) hI25 hJ26)))) (fr_bd fr_128 (fun _ h => absurd h (List.not_mem_nil)) (by first | (simp; done) | (split <;> simp)) ag_refl aj_refl (fun ov4 I5 J6 hI5 hJ6 => fr_bd (ih _ _ _ _ _ _) (fun _ h => h) (fun _ h => h) hI5 hJ6 (fun ov8 I9 J10 hI9 hJ10 => fr_bd fr_17 (by first | (simp; done) | (split <;> simp)) (by first | (simp; done) | (split <;> simp)) hI9 hJ10 (fun ov12 I13 J14 hI13 hJ14 => fr_tl (ih _ _ _ _ _ _) (fun _ h => h) (fun _ h => h) hI13 hJ14))))) (fr_ite (fr_ite (fr_bd fr_128 (fun _ h => absurd h (List.not_mem_nil)) (by first | (simp; done) | (split <;> simp)) ag_refl aj_refl (fun ov42 I43 J44 hI43 hJ44 => fr_bd (ih _ _ _ _ _ _) (fun _ h => h) (fun _ h => h) hI43 hJ44 (fun ov46 I47 J48 hI47 hJ48 => fr_bd fr_17 (by first | (simp; done) | (split <;> simp)) (by first | (simp; done) | (split <;> simp)) hI47 hJ48 (fun ov50 I51 J52 hI51 hJ52 => fr_tl (ih _ _ _ _ _ _) (fun _ h => h) (fun _ h => h) hI51 hJ52)))) (fr_bd fr_128 (fun _ h => absurd h (List.not_mem_nil)) (by first | (simp; done) | (split <;> simp)) ag_refl aj_refl (fun ov30 I31 J32 hI31 hJ32 => fr_bd (ih _ _ _ _ _ _) (fun _ h => h) (fun _ h => h) hI31 hJ32 (fun ov34 I35 J36 hI35 hJ36 => fr_bd fr_17 (by first | (simp; done) | (split <;> simp)) (by first | (simp; done) | (split <;> simp)) hI35 hJ36 (fun ov38 I39 J40 hI39 hJ40 => fr_tl (ih _ _ _ _ _ _) (fun _ h => h) (fun _ h => h) hI39 hJ40))))) (fr_some ag_refl aj_refl))) (fr_some ag_refl aj_refl)
      · intro y2 y3 I J
        rw [g21]
        exact fr_ite (fr_ite (fr_ite (fr_bd fr_128 (fun _ h => absurd h (List.not_mem_nil)) (by first | (simp; done) | (split <;> simp)) ag_refl aj_refl (fun ov16 I17 J18 hI17 hJ18 => fr_bd (ih _ _ _ _ _ _) (fun _ h => h) (fun _ h => h) hI17 hJ18 (fun ov20 I21 J22 hI21 hJ22 => fr_bd fr_17 (by first | (simp; done) | (split <;> simp)) (by first | (simp; done) | (split <;> simp)) hI21 hJ22 (fun ov24 I25 J26 hI25 hJ26 => fr_tl (ih _ _ _ _ _ _) (fun _ h => h) (fun _ h => h) hI25 hJ26)))) (fr_bd fr_128 (fun _ h => absurd h (List.not_mem_nil)) (by first | (simp; done) | (split <;> simp)) ag_refl aj_refl (fun ov4 I5 J6 hI5 hJ6 => fr_bd (ih _ _ _ _ _ _) (fun _ h => h) (fun _ h => h) hI5 hJ6 (fun ov8 I9 J10 hI9 hJ10 => fr_bd fr_17 (by first | (simp; done) | (split <;> simp)) (by first | (simp; done) | (split <;> simp)) hI9 hJ10 (fun ov12 I13 J14 hI13 hJ14 => fr_tl (ih _ _ _ _ _ _) (fun _ h => h) (fun _ h => h) hI13 hJ14))))) (fr_ite (fr_ite (fr_bd fr_128 (fun _ h => absurd h (List.not_mem_nil)) (by first | (simp; done) | (split <;> simp)) ag_refl aj_refl (fun ov42 I43 J44 hI43 hJ44 => fr_bd (ih _ _ _ _ _ _) (fun _ h => h) (fun _ h => h) hI43 hJ44 (fun ov46 I47 J48 hI47 hJ48 => fr_bd fr_17 (by first | (simp; done) | (split <;> simp)) (by first | (simp; done) | (split <;> simp)) hI47 hJ48 (fun ov50 I51 J52 hI51 hJ52 => fr_tl (ih _ _ _ _ _ _) (fun _ h => h) (fun _ h => h) hI51 hJ52)))) (fr_bd fr_128 (fun _ h => absurd h (List.not_mem_nil)) (by first | (simp; done) | (split <;> simp)) ag_refl aj_refl (fun ov30 I31 J32 hI31 hJ32 => fr_bd (ih _ _ _ _ _ _) (fun _ h => h) (fun _ h => h) hI31 hJ32 (fun ov34 I35 J36 hI35 hJ36 => fr_bd fr_17 (by first | (simp; done) | (split <;> simp)) (by first | (simp; done) | (split <;> simp)) hI35 hJ36 (fun ov38 I39 J40 hI39 hJ40 => fr_tl (ih _ _ _ _ _ _) (fun _ h => h) (fun _ h => h) hI39 hJ40))))) (fr_some ag_refl aj_refl))) (fr_some ag_refl aj_refl)
theorem fr_21 {a0 : Nat} {x2 : Int32} {I : Nat → Nat → Int32} {J : Nat → Nat → Int64} : pm_fr [a0 + 1] [(1, 3), (1, 4), (1, 5), (1, 6), (1, 7), (1, 8), (a0, 2)] I J (f21 a0 x2 I J) := by
  unfold f21
  exact fr_tl (fr_g21 _ _ _ _ _ _ _) (by first | (simp; done) | (split <;> simp)) (by first | (simp; done) | (split <;> simp)) ag_refl aj_refl
theorem fr_22 {a0 : Nat} {x2 : Int32} {I : Nat → Nat → Int32} {J : Nat → Nat → Int64} : pm_fr [a0 + 1] [(1, 3), (1, 4), (1, 5), (1, 6), (1, 7), (1, 8), (a0, 2)] I J (f22 a0 x2 I J) := by
  unfold f22
  exact fr_tl (fr_g21 _ _ _ _ _ _ _) (by first | (simp; done) | (split <;> simp)) (by first | (simp; done) | (split <;> simp)) ag_refl aj_refl
theorem fr_23 {a0 : Nat} {x2 : Int32} {I : Nat → Nat → Int32} {J : Nat → Nat → Int64} : pm_fr [a0 + 1] [(1, 3), (1, 4), (1, 5), (1, 6), (1, 7), (1, 8), (a0, 2)] I J (f23 a0 x2 I J) := by
  unfold f23
  exact fr_tl (fr_g21 _ _ _ _ _ _ _) (by first | (simp; done) | (split <;> simp)) (by first | (simp; done) | (split <;> simp)) ag_refl aj_refl
theorem fr_20 {a0 : Nat} {I : Nat → Nat → Int32} {J : Nat → Nat → Int64} : pm_fr [a0 + 1] [(1, 3), (1, 4), (1, 5), (1, 6), (1, 7), (1, 8), (a0, 2)] I J (f20 a0 I J) := by
  unfold f20
  exact fr_ltI (ag_w ag_refl (Or.inr (by simp))) (fun I1 hI1 => fr_bd fr_21 (by first | (simp; done) | (split <;> simp)) (by first | (simp; done) | (split <;> simp)) hI1 aj_refl (fun ov2 I3 J4 hI3 hJ4 => fr_ite (fr_bd fr_133 (fun _ h => absurd h (List.not_mem_nil)) (by first | (simp; done) | (split <;> simp)) hI3 hJ4 (fun ov7 I8 J9 hI8 hJ9 => fr_some hI8 hJ9)) (fr_some hI3 hJ4)))
theorem fr_26 {a0 : Nat} {a1 : Nat} {I : Nat → Nat → Int32} {J : Nat → Nat → Int64} : pm_fr [a0 + 1] [(a0, 2)] I J (f26 a0 a1 I J) := by
  unfold f26
  exact fr_ltI (ag_cp ag_refl (by simp)) (fun I1 hI1 => fr_ltI (ag_w hI1 (Or.inr (by simp))) (fun I2 hI2 => fr_some hI2 aj_refl))
theorem fr_84_14 {a0 : Nat} : ∀ (fu : Nat) (y1 : Int32) (y2 : Int32) (y3 : Int32) (y4 : Int32) (I : (Nat → Nat → Int32)) (J : (Nat → Nat → Int64)), pm_fr [] [] I J (f84_14 a0 fu y1 y2 y3 y4 I J) := by
  intro fu
  induction fu with
  | zero => intros; intro _ _ _ h; cases h
  | succ fu ih =>
    intro y1 y2 y3 y4 I J
    rw [f84_14]
    exact fr_ite (fr_ite (fr_tl (ih _ _ _ _ _ _) (fun _ h => h) (fun _ h => h) ag_refl aj_refl) (fr_ite (fr_tl (ih _ _ _ _ _ _) (fun _ h => h) (fun _ h => h) ag_refl aj_refl) (fr_ite (fr_tl (ih _ _ _ _ _ _) (fun _ h => h) (fun _ h => h) ag_refl aj_refl) (fr_tl (ih _ _ _ _ _ _) (fun _ h => h) (fun _ h => h) ag_refl aj_refl)))) (fr_some ag_refl aj_refl)
theorem fr_84 {a0 : Nat} {x1 : Int32} {I : Nat → Nat → Int32} {J : Nat → Nat → Int64} : pm_fr [] [] I J (f84 a0 x1 I J) := by
  unfold f84
  exact fr_tl (fr_84_14 _ _ _ _ _ _ _) (fun _ h => h) (fun _ h => h) ag_refl aj_refl
theorem fr_32 {r : Nat} {x1 : Int32} {I : Nat → Nat → Int32} {J : Nat → Nat → Int64} : pm_fr [12] [] I J (f32 r x1 I J) := by
  unfold f32
  exact fr_ltI (ag_pw ag_refl (List.mem_of_elem_eq_true rfl)) (fun I1 hI1 => fr_ltI (ag_pw hI1 (List.mem_of_elem_eq_true rfl)) (fun I2 hI2 => fr_ltI (ag_pw hI2 (List.mem_of_elem_eq_true rfl)) (fun I3 hI3 => fr_ltI (ag_pw hI3 (List.mem_of_elem_eq_true rfl)) (fun I4 hI4 => fr_bd fr_84 (fun _ h => absurd h (List.not_mem_nil)) (fun _ h => h) hI4 aj_refl (fun ov5 I6 J7 hI6 hJ7 => fr_ltI (ag_pw hI6 (List.mem_of_elem_eq_true rfl)) (fun I9 hI9 => fr_ltI (ag_pw hI9 (List.mem_of_elem_eq_true rfl)) (fun I10 hI10 => fr_ite (fr_ltI (ag_pw hI10 (List.mem_of_elem_eq_true rfl)) (fun I14 hI14 => fr_ltI (ag_pw hI14 (List.mem_of_elem_eq_true rfl)) (fun I15 hI15 => fr_some hI15 hJ7))) (fr_ltI (ag_pw hI10 (List.mem_of_elem_eq_true rfl)) (fun I12 hI12 => fr_ltI (ag_pw hI12 (List.mem_of_elem_eq_true rfl)) (fun I13 hI13 => fr_some hI13 hJ7))))))))))
theorem fr_31 {r : Nat} {x1 : Int32} {x2 : Int32} {I : Nat → Nat → Int32} {J : Nat → Nat → Int64} : pm_fr [8, 11, 12] [] I J (f31 r x1 x2 I J) := by
  unfold f31
  exact fr_bd fr_32 (zt_sub rfl) (fun _ h => h) ag_refl aj_refl (fun ov1 I2 J3 hI2 hJ3 => fr_bd fr_18 (by first | (simp; done) | (split <;> simp)) (fun _ h => h) hI2 hJ3 (fun ov6 I7 J8 hI7 hJ8 => fr_some hI7 hJ8))
theorem fr_29_4 {r : Nat} : ∀ (fu : Nat) (y1 : Int32) (y2 : Int32) (I : (Nat → Nat → Int32)) (J : (Nat → Nat → Int64)), pm_fr [8, 11, 12] [] I J (f29_4 r fu y1 y2 I J) := by
  intro fu
  induction fu with
  | zero => intros; intro _ _ _ h; cases h
  | succ fu ih =>
    intro y1 y2 I J
    rw [f29_4]
    exact fr_ite (fr_ite (fr_bd fr_31 (fun _ h => h) (fun _ h => h) ag_refl aj_refl (fun ov3 I4 J5 hI4 hJ5 => fr_ite (fr_tl (ih _ _ _ _) (fun _ h => h) (fun _ h => h) hI4 hJ5) (fr_tl (ih _ _ _ _) (fun _ h => h) (fun _ h => h) hI4 hJ5))) (fr_tl (ih _ _ _ _) (fun _ h => h) (fun _ h => h) ag_refl aj_refl)) (fr_some ag_refl aj_refl)
theorem fr_29 {r : Nat} {I : Nat → Nat → Int32} {J : Nat → Nat → Int64} : pm_fr [8, 11, 12] [] I J (f29 r I J) := by
  unfold f29
  exact fr_tl (fr_29_4 _ _ _ _ _) (fun _ h => h) (fun _ h => h) ag_refl aj_refl
theorem fr_85 {a0 : Nat} {x1 : Int32} {x2 : Int32} {I : Nat → Nat → Int32} {J : Nat → Nat → Int64} : pm_fr [] [] I J (f85 a0 x1 x2 I J) := by
  unfold f85
  exact fr_bd fr_84 (fun _ h => h) (fun _ h => h) ag_refl aj_refl (fun ov1 I2 J3 hI2 hJ3 => fr_ite (fr_some hI2 hJ3) (fr_some hI2 hJ3))
theorem fr_35 {r : Nat} {x1 : Int32} {x2 : Int32} {I : Nat → Nat → Int32} {J : Nat → Nat → Int64} : pm_fr [] [] I J (f35 r x1 x2 I J) := by
  unfold f35
  exact fr_bd fr_85 (fun _ h => h) (fun _ h => h) ag_refl aj_refl (fun ov1 I2 J3 hI2 hJ3 => fr_ite (fr_ite (fr_ite (fr_ite (fr_some hI2 hJ3) (fr_some hI2 hJ3)) (fr_some hI2 hJ3)) (fr_some hI2 hJ3)) (fr_some hI2 hJ3))
theorem fr_34_L {r : Nat} : ∀ (fu : Nat) (z1 : Nat) (y1 : Int32) (y2 : Int32) (y3 : Int32) (I : (Nat → Nat → Int32)) (J : (Nat → Nat → Int64)), pm_fr [] [] I J (f34_L r fu z1 y1 y2 y3 I J) := by
  intro fu
  induction fu with
  | zero => intros; intro _ _ _ h; cases h
  | succ fu ih =>
    intro lab
    rcases lab with _ | lab
    · intro y1 y2 _ I J
      rw [f34_L]
      exact fr_ite (fr_tl (ih _ _ _ _ _ _) (fun _ h => h) (fun _ h => h) ag_refl aj_refl) (fr_some ag_refl aj_refl)
    · intro y1 y2 y3 I J
      rw [f34_L]
      exact fr_ite (fr_bd fr_35 (fun _ h => h) (fun _ h => h) ag_refl aj_refl (fun ov3 I4 J5 hI4 hJ5 => fr_ite (fr_tl (ih _ _ _ _ _ _) (fun _ h => h) (fun _ h => h) hI4 hJ5) (fr_tl (ih _ _ _ _ _ _) (fun _ h => h) (fun _ h => h) hI4 hJ5))) (fr_tl (ih _ _ _ _ _ _) (fun _ h => h) (fun _ h => h) ag_refl aj_refl)
theorem fr_34 {r : Nat} {I : Nat → Nat → Int32} {J : Nat → Nat → Int64} : pm_fr [] [] I J (f34 r I J) := by
  unfold f34
  exact fr_tl (fr_34_L _ _ _ _ _ _ _) (fun _ h => h) (fun _ h => h) ag_refl aj_refl
theorem fr_36_4 {r : Nat} : ∀ (fu : Nat) (y1 : Int32) (y2 : Int32) (y3 : Int32) (I : (Nat → Nat → Int32)) (J : (Nat → Nat → Int64)), pm_fr [] [] I J (f36_4 r fu y1 y2 y3 I J) := by
  intro fu
  induction fu with
  | zero => intros; intro _ _ _ h; cases h
  | succ fu ih =>
    intro y1 y2 y3 I J
    rw [f36_4]
    exact fr_ite (fr_ite (fr_tl (ih _ _ _ _ _) (fun _ h => h) (fun _ h => h) ag_refl aj_refl) (fr_tl (ih _ _ _ _ _) (fun _ h => h) (fun _ h => h) ag_refl aj_refl)) (fr_some ag_refl aj_refl)
theorem fr_36 {r : Nat} {x1 : Int32} {I : Nat → Nat → Int32} {J : Nat → Nat → Int64} : pm_fr [] [] I J (f36 r x1 I J) := by
  unfold f36
  exact fr_tl (fr_36_4 _ _ _ _ _ _) (fun _ h => h) (fun _ h => h) ag_refl aj_refl
theorem fr_103 {x1 : Int32} {I : Nat → Nat → Int32} {J : Nat → Nat → Int64} : pm_fr [5] [] I J (f103 x1 I J) := by
  unfold f103
  exact fr_ltI (ag_pw ag_refl (List.mem_of_elem_eq_true rfl)) (fun I1 hI1 => fr_some hI1 aj_refl)
theorem fr_104 {x1 : Int32} {I : Nat → Nat → Int32} {J : Nat → Nat → Int64} : pm_fr [5] [] I J (f104 x1 I J) := by
  unfold f104
  exact fr_ltI (ag_pw ag_refl (List.mem_of_elem_eq_true rfl)) (fun I1 hI1 => fr_some hI1 aj_refl)
theorem fr_101_L {a1 : Nat} : ∀ (fu : Nat) (z1 : Nat) (y2 : Int32) (y3 : Int32) (I : (Nat → Nat → Int32)) (J : (Nat → Nat → Int64)), pm_fr [5] [] I J (f101_L a1 fu z1 y2 y3 I J) := by
  intro fu
  induction fu with
  | zero => intros; intro _ _ _ h; cases h
  | succ fu ih =>
    intro lab
    rcases lab with _ | lab
    · intro y2 _ I J
      rw [f101_L]
      exact fr_ite (fr_tl (ih _ _ _ _ _) (fun _ h => h) (fun _ h => h) ag_refl aj_refl) (fr_bd fr_103 (fun _ h => h) (fun _ h => h) ag_refl aj_refl (fun ov2 I3 J4 hI3 hJ4 => fr_bd fr_104 (fun _ h => h) (fun _ h => h) hI3 hJ4 (fun ov6 I7 J8 hI7 hJ8 => fr_some hI7 hJ8)))
    · intro y2 y3 I J
      rw [f101_L]
      exact fr_ite (fr_ltI (ag_ss ag_refl (List.mem_of_elem_eq_true rfl)) (fun I14 hI14 => fr_tl (ih _ _ _ _ _) (fun _ h => h) (fun _ h => h) hI14 aj_refl)) (fr_ltI (ag_ss ag_refl (List.mem_of_elem_eq_true rfl)) (fun I11 hI11 => fr_ltI (ag_ss hI11 (List.mem_of_elem_eq_true rfl)) (fun I12 hI12 => fr_ltI (ag_ss hI12 (List.mem_of_elem_eq_true rfl)) (fun I13 hI13 => fr_tl (ih _ _ _ _ _) (fun _ h => h) (fun _ h => h) hI13 aj_refl))))
theorem fr_101 {a1 : Nat} {I : Nat → Nat → Int32} {J : Nat → Nat → Int64} : pm_fr [5] [] I J (f101 a1 I J) := by
  unfold f101
  exact fr_tl (fr_101_L _ _ _ _ _ _) (fun _ h => h) (fun _ h => h) ag_refl aj_refl
theorem fr_40_29 {r : Nat} : ∀ (fu : Nat) (y1 : Int32) (I : (Nat → Nat → Int32)) (J : (Nat → Nat → Int64)), pm_fr [5] [] I J (f40_29 r fu y1 I J) := by
  intro fu
  induction fu with
  | zero => intros; intro _ _ _ h; cases h
  | succ fu ih =>
    intro y1 I J
    rw [f40_29]
    exact fr_ite (fr_ite (fr_ltI (ag_ss ag_refl (List.mem_of_elem_eq_true rfl)) (fun I3 hI3 => fr_tl (ih _ _ _) (fun _ h => h) (fun _ h => h) hI3 aj_refl)) (fr_tl (ih _ _ _) (fun _ h => h) (fun _ h => h) ag_refl aj_refl)) (fr_some ag_refl aj_refl)
theorem fr_40 {r : Nat} {I : Nat → Nat → Int32} {J : Nat → Nat → Int64} : pm_fr [5] [] I J (f40 r I J) := by
  unfold f40
  exact fr_bd fr_36 (fun _ h => absurd h (List.not_mem_nil)) (fun _ h => h) ag_refl aj_refl (fun ov1 I2 J3 hI2 hJ3 => fr_ite (fr_some hI2 hJ3) (fr_ite (fr_some hI2 hJ3) (fr_tl (fr_40_29 _ _ _ _) (fun _ h => h) (fun _ h => h) hI2 hJ3)))
theorem fr_42_4 {r : Nat} : ∀ (fu : Nat) (y1 : Int32) (y2 : Int32) (y3 : Int32) (I : (Nat → Nat → Int32)) (J : (Nat → Nat → Int64)), pm_fr [] [] I J (f42_4 r fu y1 y2 y3 I J) := by
  intro fu
  induction fu with
  | zero => intros; intro _ _ _ h; cases h
  | succ fu ih =>
    intro y1 y2 y3 I J
    rw [f42_4]
    exact fr_ite (fr_ite (fr_ite (fr_tl (ih _ _ _ _ _) (fun _ h => h) (fun _ h => h) ag_refl aj_refl) (fr_tl (ih _ _ _ _ _) (fun _ h => h) (fun _ h => h) ag_refl aj_refl)) (fr_tl (ih _ _ _ _ _) (fun _ h => h) (fun _ h => h) ag_refl aj_refl)) (fr_some ag_refl aj_refl)
theorem fr_42 {r : Nat} {x1 : Int32} {I : Nat → Nat → Int32} {J : Nat → Nat → Int64} : pm_fr [] [] I J (f42 r x1 I J) := by
  unfold f42
  exact fr_tl (fr_42_4 _ _ _ _ _ _) (fun _ h => h) (fun _ h => h) ag_refl aj_refl
theorem fr_41 {r : Nat} {x1 : Int32} {x2 : Int32} {I : Nat → Nat → Int32} {J : Nat → Nat → Int64} : pm_fr [5] [] I J (f41 r x1 x2 I J) := by
  unfold f41
  exact fr_ite (fr_bd fr_42 (fun _ h => absurd h (List.not_mem_nil)) (fun _ h => h) ag_refl aj_refl (fun ov2 I3 J4 hI3 hJ4 => fr_ite (fr_ltI (ag_ss hI3 (List.mem_of_elem_eq_true rfl)) (fun I7 hI7 => fr_ltI (ag_ss hI7 (List.mem_of_elem_eq_true rfl)) (fun I8 hI8 => fr_ltI (ag_ss hI8 (List.mem_of_elem_eq_true rfl)) (fun I9 hI9 => fr_ltI (ag_ss hI9 (List.mem_of_elem_eq_true rfl)) (fun I10 hI10 => fr_some hI10 hJ4))))) (fr_some hI3 hJ4))) (fr_some ag_refl aj_refl)
theorem fr_43 {x1 : Int32} {x2 : Int32} {I : Nat → Nat → Int32} {J : Nat → Nat → Int64} : pm_fr [5] [] I J (f43 x1 x2 I J) := by
  unfold f43
  exact fr_ite (fr_ite (fr_ltI (ag_ss ag_refl (List.mem_of_elem_eq_true rfl)) (fun I3 hI3 => fr_some hI3 aj_refl)) (fr_some ag_refl aj_refl)) (fr_some ag_refl aj_refl)
theorem fr_44 {x1 : Int32} {I : Nat → Nat → Int32} {J : Nat → Nat → Int64} : pm_fr [5] [] I J (f44 x1 I J) := by
  unfold f44
  exact fr_ite (fr_some ag_refl aj_refl) (fr_ltI (ag_ss ag_refl (List.mem_of_elem_eq_true rfl)) (fun I2 hI2 => fr_some hI2 aj_refl))
theorem fr_45 {x1 : Int32} {x2 : Int32} {I : Nat → Nat → Int32} {J : Nat → Nat → Int64} : pm_fr [5] [] I J (f45 x1 x2 I J) := by
  unfold f45
  exact fr_ite (fr_some ag_refl aj_refl) (fr_ite (fr_some ag_refl aj_refl) (fr_ltI (ag_ss ag_refl (List.mem_of_elem_eq_true rfl)) (fun I3 hI3 => fr_some hI3 aj_refl)))
theorem fr_47 {r : Nat} {x1 : Int32} {I : Nat → Nat → Int32} {J : Nat → Nat → Int64} : pm_fr [8, 12] [] I J (f47 r x1 I J) := by
  unfold f47
  exact fr_ite (fr_some ag_refl aj_refl) (fr_bd fr_32 (zt_sub rfl) (fun _ h => h) ag_refl aj_refl (fun ov2 I3 J4 hI3 hJ4 => fr_bd fr_18 (by first | (simp; done) | (split <;> simp)) (fun _ h => h) hI3 hJ4 (fun ov6 I7 J8 hI7 hJ8 => fr_some hI7 hJ8)))
theorem fr_49 {x1 : Int32} {I : Nat → Nat → Int32} {J : Nat → Nat → Int64} : pm_fr [5] [] I J (f49 x1 I J) := by
  unfold f49
  exact fr_ltI (ag_ss ag_refl (List.mem_of_elem_eq_true rfl)) (fun I1 hI1 => fr_ltI (ag_ss hI1 (List.mem_of_elem_eq_true rfl)) (fun I2 hI2 => fr_some hI2 aj_refl))
theorem fr_46 {r : Nat} {x1 : Int32} {I : Nat → Nat → Int32} {J : Nat → Nat → Int64} : pm_fr [5, 8, 12] [] I J (f46 r x1 I J) := by
  unfold f46
  exact fr_bd fr_47 (zt_sub rfl) (fun _ h => h) ag_refl aj_refl (fun ov1 I2 J3 hI2 hJ3 => fr_ite (fr_ltI (ag_ss hI2 (List.mem_of_elem_eq_true rfl)) (fun I6 hI6 => fr_bd fr_49 (zt_sub rfl) (fun _ h => h) hI6 hJ3 (fun ov7 I8 J9 hI8 hJ9 => fr_some hI8 hJ9))) (fr_some hI2 hJ3))
theorem fr_51 {x1 : Int32} {I : Nat → Nat → Int32} {J : Nat → Nat → Int64} : pm_fr [5] [] I J (f51 x1 I J) := by
  unfold f51
  exact fr_ite (fr_bd fr_104 (fun _ h => h) (fun _ h => h) ag_refl aj_refl (fun ov3 I4 J5 hI4 hJ5 => fr_some hI4 hJ5)) (fr_ltI (ag_ss ag_refl (List.mem_of_elem_eq_true rfl)) (fun I2 hI2 => fr_some hI2 aj_refl))
theorem fr_50_L {r : Nat} : ∀ (fu : Nat) (z1 : Nat) (y1 : Int32) (I : (Nat → Nat → Int32)) (J : (Nat → Nat → Int64)), pm_fr [5, 8, 12] [] I J (f50_L r fu z1 y1 I J) := by
  intro fu
  induction fu with
  | zero => intros; intro _ _ _ h; cases h
  | succ fu ih =>
    intro lab
    rcases lab with _ | lab
    · intro y1 I J
      rw [f50_L]
      exact fr_ite (fr_ite (fr_bd fr_51 (zt_sub rfl) (fun _ h => h) ag_refl aj_refl (fun ov9 I10 J11 hI10 hJ11 => fr_tl (ih _ _ _ _) (fun _ h => h) (fun _ h => h) hI10 hJ11)) (fr_ite (fr_ltI (ag_ss ag_refl (List.mem_of_elem_eq_true rfl)) (fun I8 hI8 => fr_tl (ih _ _ _ _) (fun _ h => h) (fun _ h => h) hI8 aj_refl)) (fr_tl (ih _ _ _ _) (fun _ h => h) (fun _ h => h) ag_refl aj_refl))) (fr_bd fr_103 (zt_sub rfl) (fun _ h => h) ag_refl aj_refl (fun ov2 I3 J4 hI3 hJ4 => fr_tl (ih _ _ _ _) (fun _ h => h) (fun _ h => h) hI3 hJ4))
    · intro y1 I J
      rw [f50_L]
      exact fr_ite (fr_ite (fr_bd fr_47 (zt_sub rfl) (fun _ h => h) ag_refl aj_refl (fun ov15 I16 J17 hI16 hJ17 => fr_ite (fr_bd fr_49 (zt_sub rfl) (fun _ h => h) hI16 hJ17 (fun ov20 I21 J22 hI21 hJ22 => fr_tl (ih _ _ _ _) (fun _ h => h) (fun _ h => h) hI21 hJ22)) (fr_tl (ih _ _ _ _) (fun _ h => h) (fun _ h => h) hI16 hJ17))) (fr_tl (ih _ _ _ _) (fun _ h => h) (fun _ h => h) ag_refl aj_refl)) (fr_some ag_refl aj_refl)
theorem fr_50 {r : Nat} {I : Nat → Nat → Int32} {J : Nat → Nat → Int64} : pm_fr [5, 8, 12] [] I J (f50 r I J) := by
  unfold f50
  exact fr_ite (fr_tl (fr_50_L _ _ _ _ _) (fun _ h => h) (fun _ h => h) ag_refl aj_refl) (fr_some ag_refl aj_refl)
theorem fr_39 {r : Nat} {x1 : Int32} {x2 : Int32} {x3 : Int32} {I : Nat → Nat → Int32} {J : Nat → Nat → Int64} : pm_fr [5, 8, 12] [] I J (f39 r x1 x2 x3 I J) := by
  unfold f39
  exact fr_ite (fr_bd fr_40 (zt_sub rfl) (fun _ h => h) ag_refl aj_refl (fun ov2 I3 J4 hI3 hJ4 => fr_some hI3 hJ4)) (fr_ite (fr_bd fr_41 (zt_sub rfl) (fun _ h => h) ag_refl aj_refl (fun ov7 I8 J9 hI8 hJ9 => fr_some hI8 hJ9)) (fr_ite (fr_bd fr_43 (zt_sub rfl) (fun _ h => h) ag_refl aj_refl (fun ov12 I13 J14 hI13 hJ14 => fr_some hI13 hJ14)) (fr_ite (fr_bd fr_44 (zt_sub rfl) (fun _ h => h) ag_refl aj_refl (fun ov17 I18 J19 hI18 hJ19 => fr_some hI18 hJ19)) (fr_ite (fr_bd fr_45 (zt_sub rfl) (fun _ h => h) ag_refl aj_refl (fun ov22 I23 J24 hI23 hJ24 => fr_some hI23 hJ24)) (fr_ite (fr_bd fr_45 (zt_sub rfl) (fun _ h => h) ag_refl aj_refl (fun ov27 I28 J29 hI28 hJ29 => fr_some hI28 hJ29)) (fr_ite (fr_bd fr_46 (fun _ h => h) (fun _ h => h) ag_refl aj_refl (fun ov32 I33 J34 hI33 hJ34 => fr_some hI33 hJ34)) (fr_ite (fr_bd fr_50 (fun _ h => h) (fun _ h => h) ag_refl aj_refl (fun ov37 I38 J39 hI38 hJ39 => fr_some hI38 hJ39)) (fr_some ag_refl aj_refl))))))))
theorem fr_52 {x1 : Int32} {x2 : Int32} {x3 : Int32} {x4 : Int32} {x5 : Int32} {x6 : Int32} {I : Nat → Nat → Int32} {J : Nat → Nat → Int64} : pm_fr [8, 12] [] I J (f52 x1 x2 x3 x4 x5 x6 I J) := by
  unfold f52
  exact fr_ltI (ag_pw ag_refl (List.mem_of_elem_eq_true rfl)) (fun I1 hI1 => fr_ltI (ag_pw hI1 (List.mem_of_elem_eq_true rfl)) (fun I2 hI2 => fr_ltI (ag_pw hI2 (List.mem_of_elem_eq_true rfl)) (fun I3 hI3 => fr_ltI (ag_pw hI3 (List.mem_of_elem_eq_true rfl)) (fun I4 hI4 => fr_ltI (ag_pw hI4 (List.mem_of_elem_eq_true rfl)) (fun I5 hI5 => fr_ltI (ag_pw hI5 (List.mem_of_elem_eq_true rfl)) (fun I6 hI6 => fr_ltI (ag_pw hI6 (List.mem_of_elem_eq_true rfl)) (fun I7 hI7 => fr_ltI (ag_pw hI7 (List.mem_of_elem_eq_true rfl)) (fun I8 hI8 => fr_bd fr_18 (by first | (simp; done) | (split <;> simp)) (fun _ h => h) hI8 aj_refl (fun ov9 I10 J11 hI10 hJ11 => fr_some hI10 hJ11)))))))))
theorem fr_53_37 {r : Nat} : ∀ (fu : Nat) (y3 : Int32) (y4 : Nat) (y5 : Int32) (y6 : Int32) (I : (Nat → Nat → Int32)) (J : (Nat → Nat → Int64)), pm_fr [12, y4 + 2] [] I J (f53_37 r fu y3 y4 y5 y6 I J) := by
  intro fu
  induction fu with
  | zero => intros; intro _ _ _ h; cases h
  | succ fu ih =>
    intro y3 y4 y5 y6 I J
    rw [f53_37]
    exact fr_ite (fr_some ag_refl aj_refl) (fr_ltI (ag_pw ag_refl (List.mem_of_elem_eq_true rfl)) (fun I2 hI2 => fr_bd fr_18 (by first | (simp; done) | (split <;> simp)) (fun _ h => h) hI2 aj_refl (fun ov3 I4 J5 hI4 hJ5 => fr_ite (fr_tl (ih _ _ _ _ _ _) (fun _ h => h) (fun _ h => h) hI4 hJ5) (fr_some hI4 hJ5))))
theorem fr_53 {r : Nat} {x1 : Int32} {x2 : Int32} {x3 : Int32} {I : Nat → Nat → Int32} {J : Nat → Nat → Int64} : pm_fr [8, 11, 12] [] I J (f53 r x1 x2 x3 I J) := by
  unfold f53
  exact fr_ite (fr_bd fr_32 (zt_sub rfl) (fun _ h => h) ag_refl aj_refl (fun ov3 I4 J5 hI4 hJ5 => fr_tl (fr_53_37 _ _ _ _ _ _ _) (by first | (simp; done) | (split <;> simp)) (fun _ h => h) hI4 hJ5)) (fr_some ag_refl aj_refl)
theorem fr_54_8 {r : Nat} : ∀ (fu : Nat) (y1 : Int32) (y2 : Int32) (y3 : Int32) (I : (Nat → Nat → Int32)) (J : (Nat → Nat → Int64)), pm_fr [8, 11, 12] [] I J (f54_8 r fu y1 y2 y3 I J) := by
  intro fu
  induction fu with
  | zero => intros; intro _ _ _ h; cases h
  | succ fu ih =>
    intro y1 y2 y3 I J
    rw [f54_8]
    exact fr_ite (fr_bd fr_53 (fun _ h => h) (fun _ h => h) ag_refl aj_refl (fun ov2 I3 J4 hI3 hJ4 => fr_ite (fr_tl (ih _ _ _ _ _) (fun _ h => h) (fun _ h => h) hI3 hJ4) (fr_tl (ih _ _ _ _ _) (fun _ h => h) (fun _ h => h) hI3 hJ4))) (fr_some ag_refl aj_refl)
theorem fr_54 {r : Nat} {x1 : Int32} {I : Nat → Nat → Int32} {J : Nat → Nat → Int64} : pm_fr [8, 11, 12] [] I J (f54 r x1 I J) := by
  unfold f54
  exact fr_bd fr_36 (fun _ h => absurd h (List.not_mem_nil)) (fun _ h => h) ag_refl aj_refl (fun ov1 I2 J3 hI2 hJ3 => fr_tl (fr_54_8 _ _ _ _ _ _) (fun _ h => h) (fun _ h => h) hI2 hJ3)
theorem fr_55_4 {r : Nat} : ∀ (fu : Nat) (y1 : Int32) (y2 : Int32) (y3 : Int32) (I : (Nat → Nat → Int32)) (J : (Nat → Nat → Int64)), pm_fr [8, 11, 12] [] I J (f55_4 r fu y1 y2 y3 I J) := by
  intro fu
  induction fu with
  | zero => intros; intro _ _ _ h; cases h
  | succ fu ih =>
    intro y1 y2 y3 I J
    rw [f55_4]
    exact fr_ite (fr_ite (fr_bd fr_53 (fun _ h => h) (fun _ h => h) ag_refl aj_refl (fun ov3 I4 J5 hI4 hJ5 => fr_ite (fr_tl (ih _ _ _ _ _) (fun _ h => h) (fun _ h => h) hI4 hJ5) (fr_tl (ih _ _ _ _ _) (fun _ h => h) (fun _ h => h) hI4 hJ5))) (fr_tl (ih _ _ _ _ _) (fun _ h => h) (fun _ h => h) ag_refl aj_refl)) (fr_some ag_refl aj_refl)
theorem fr_55 {r : Nat} {x1 : Int32} {I : Nat → Nat → Int32} {J : Nat → Nat → Int64} : pm_fr [8, 11, 12] [] I J (f55 r x1 I J) := by
  unfold f55
  exact fr_tl (fr_55_4 _ _ _ _ _ _) (fun _ h => h) (fun _ h => h) ag_refl aj_refl
theorem fr_57 {r : Nat} {x1 : Int32} {I : Nat → Nat → Int32} {J : Nat → Nat → Int64} : pm_fr [] [] I J (f57 r x1 I J) := by
  unfold f57
  exact fr_bd fr_42 (fun _ h => h) (fun _ h => h) ag_refl aj_refl (fun ov1 I2 J3 hI2 hJ3 => fr_some hI2 hJ3)
theorem fr_58 {r : Nat} {x1 : Int32} {I : Nat → Nat → Int32} {J : Nat → Nat → Int64} : pm_fr [8, 12] [] I J (f58 r x1 I J) := by
  unfold f58
  exact fr_ite (fr_some ag_refl aj_refl) (fr_bd fr_47 (fun _ h => h) (fun _ h => h) ag_refl aj_refl (fun ov2 I3 J4 hI3 hJ4 => fr_some hI3 hJ4))
theorem fr_59 {x1 : Int32} {x2 : Int32} {I : Nat → Nat → Int32} {J : Nat → Nat → Int64} : pm_fr [8, 12] [] I J (f59 x1 x2 I J) := by
  unfold f59
  exact fr_ltI (ag_pw ag_refl (List.mem_of_elem_eq_true rfl)) (fun I1 hI1 => fr_ltI (ag_pw hI1 (List.mem_of_elem_eq_true rfl)) (fun I2 hI2 => fr_bd fr_18 (by first | (simp; done) | (split <;> simp)) (fun _ h => h) hI2 aj_refl (fun ov3 I4 J5 hI4 hJ5 => fr_some hI4 hJ5)))
theorem fr_61_4 {r : Nat} : ∀ (fu : Nat) (y1 : Int32) (y2 : Int32) (I : (Nat → Nat → Int32)) (J : (Nat → Nat → Int64)), pm_fr [] [] I J (f61_4 r fu y1 y2 I J) := by
  intro fu
  induction fu with
  | zero => intros; intro _ _ _ h; cases h
  | succ fu ih =>
    intro y1 y2 I J
    rw [f61_4]
    exact fr_ite (fr_ite (fr_ite (fr_tl (ih _ _ _ _) (fun _ h => h) (fun _ h => h) ag_refl aj_refl) (fr_ite (fr_tl (ih _ _ _ _) (fun _ h => h) (fun _ h => h) ag_refl aj_refl) (fr_tl (ih _ _ _ _) (fun _ h => h) (fun _ h => h) ag_refl aj_refl))) (fr_tl (ih _ _ _ _) (fun _ h => h) (fun _ h => h) ag_refl aj_refl)) (fr_some ag_refl aj_refl)
theorem fr_61 {r : Nat} {I : Nat → Nat → Int32} {J : Nat → Nat → Int64} : pm_fr [] [] I J (f61 r I J) := by
  unfold f61
  exact fr_tl (fr_61_4 _ _ _ _ _) (fun _ h => h) (fun _ h => h) ag_refl aj_refl
theorem fr_60_L {r : Nat} : ∀ (fu : Nat) (z1 : Nat) (y1 : Int32) (y2 : Int32) (y3 : Int32) (I : (Nat → Nat → Int32)) (J : (Nat → Nat → Int64)), pm_fr [13, 14] [] I J (f60_L r fu z1 y1 y2 y3 I J) := by
  intro fu
  induction fu with
  | zero => intros; intro _ _ _ h; cases h
  | succ fu ih =>
    intro lab
    rcases lab with _ | lab
    · intro y1 y2 y3 I J
      rw [f60_L]
      exact fr_ite (fr_bd fr_42 (fun _ h => absurd h (List.not_mem_nil)) (fun _ h => h) ag_refl aj_refl (fun ov2 I3 J4 hI3 hJ4 => fr_ltI (ag_pw hI3 (List.mem_of_elem_eq_true rfl)) (fun I6 hI6 => fr_ltI (ag_pw hI6 (List.mem_of_elem_eq_true rfl)) (fun I7 hI7 => fr_tl (ih _ _ _ _ _ _) (fun _ h => h) (fun _ h => h) hI7 hJ4)))) (fr_tl (ih _ _ _ _ _ _) (fun _ h => h) (fun _ h => h) ag_refl aj_refl)
    · intro y1 y2 y3 I J
      rw [f60_L]
      exact fr_ite (fr_bd fr_61 (fun _ h => absurd h (List.not_mem_nil)) (fun _ h => h) ag_refl aj_refl (fun ov9 I10 J11 hI10 hJ11 => fr_ltI (ag_pw hI10 (List.mem_of_elem_eq_true rfl)) (fun I13 hI13 => fr_tl (ih _ _ _ _ _ _) (fun _ h => h) (fun _ h => h) hI13 hJ11))) (fr_some ag_refl aj_refl)
theorem fr_60 {r : Nat} {x1 : Int32} {x2 : Int32} {I : Nat → Nat → Int32} {J : Nat → Nat → Int64} : pm_fr [13, 14] [] I J (f60 r x1 x2 I J) := by
  unfold f60
  exact fr_tl (fr_60_L _ _ _ _ _ _ _) (fun _ h => h) (fun _ h => h) ag_refl aj_refl
theorem fr_66_2 {a1 : Nat} : ∀ (fu : Nat) (y2 : Int32) (y3 : Int32) (I : (Nat → Nat → Int32)) (J : (Nat → Nat → Int64)), pm_fr [] [] I J (f66_2 a1 fu y2 y3 I J) := by
  intro fu
  induction fu with
  | zero => intros; intro _ _ _ h; cases h
  | succ fu ih =>
    intro y2 y3 I J
    rw [f66_2]
    exact fr_ite (fr_bd fr_85 (fun _ h => h) (fun _ h => h) ag_refl aj_refl (fun ov2 I3 J4 hI3 hJ4 => fr_ite (fr_ite (fr_tl (ih _ _ _ _) (fun _ h => h) (fun _ h => h) hI3 hJ4) (fr_some hI3 hJ4)) (fr_tl (ih _ _ _ _) (fun _ h => h) (fun _ h => h) hI3 hJ4))) (fr_some ag_refl aj_refl)
theorem fr_66 {a1 : Nat} {x2 : Int32} {I : Nat → Nat → Int32} {J : Nat → Nat → Int64} : pm_fr [] [] I J (f66 a1 x2 I J) := by
  unfold f66
  exact fr_tl (fr_66_2 _ _ _ _ _) (fun _ h => h) (fun _ h => h) ag_refl aj_refl
theorem fr_65_L {r : Nat} : ∀ (fu : Nat) (z1 : Nat) (y2 : Int32) (y3 : Int32) (y4 : Int32) (y5 : Int32) (I : (Nat → Nat → Int32)) (J : (Nat → Nat → Int64)), pm_fr [8, 12, 106, 107, 108] [] I J (f65_L r fu z1 y2 y3 y4 y5 I J) := by
  intro fu
  induction fu with
  | zero => intros; intro _ _ _ h; cases h
  | succ fu ih =>
    intro lab
    rcases lab with _ | lab
    · intro y2 y3 y4 _ I J
      rw [f65_L]
      exact fr_ite (fr_ltI (ag_pw ag_refl (List.mem_of_elem_eq_true rfl)) (fun I8 hI8 => fr_tl (ih _ _ _ _ _ _ _) (fun _ h => h) (fun _ h => h) hI8 aj_refl)) (fr_ltI (ag_pw ag_refl (List.mem_of_elem_eq_true rfl)) (fun I2 hI2 => fr_ltI (ag_pw hI2 (List.mem_of_elem_eq_true rfl)) (fun I3 hI3 => fr_bd fr_47 (zt_sub rfl) (fun _ h => h) hI3 aj_refl (fun ov4 I5 J6 hI5 hJ6 => fr_tl (ih _ _ _ _ _ _ _) (fun _ h => h) (fun _ h => h) hI5 hJ6))))
    · intro y2 y3 y4 y5 I J
      rw [f65_L]
      exact fr_ite (fr_ltI (ag_pw ag_refl (List.mem_of_elem_eq_true rfl)) (fun I10 hI10 => fr_tl (ih _ _ _ _ _ _ _) (fun _ h => h) (fun _ h => h) hI10 aj_refl)) (fr_some ag_refl aj_refl)
theorem fr_65 {r : Nat} {x2 : Int32} {I : Nat → Nat → Int32} {J : Nat → Nat → Int64} : pm_fr [8, 12, 106, 107, 108] [(104, 7)] I J (f65 r x2 I J) := by
  unfold f65
  exact fr_bd fr_66 (fun _ h => absurd h (List.not_mem_nil)) (fun _ h => absurd h (List.not_mem_nil)) ag_refl aj_refl (fun ov1 I2 J3 hI2 hJ3 => fr_ite (fr_ltI (ag_w hI2 (Or.inr (List.mem_of_elem_eq_true rfl))) (fun I12 hI12 => fr_ltI (ag_pw hI12 (List.mem_of_elem_eq_true rfl)) (fun I13 hI13 => fr_tl (fr_65_L _ _ _ _ _ _ _ _) (fun _ h => h) (fun _ h => absurd h (List.not_mem_nil)) hI13 hJ3))) (fr_ltI (ag_pw hI2 (List.mem_of_elem_eq_true rfl)) (fun I6 hI6 => fr_ltI (ag_pw hI6 (List.mem_of_elem_eq_true rfl)) (fun I7 hI7 => fr_bd fr_47 (zt_sub rfl) (fun _ h => absurd h (List.not_mem_nil)) hI7 hJ3 (fun ov8 I9 J10 hI9 hJ10 => fr_tl (fr_65_L _ _ _ _ _ _ _ _) (fun _ h => h) (fun _ h => absurd h (List.not_mem_nil)) hI9 hJ10)))))
theorem fr_64_18 {r : Nat} : ∀ (fu : Nat) (y2 : Int32) (I : (Nat → Nat → Int32)) (J : (Nat → Nat → Int64)), pm_fr [8, 12, 106, 107, 108] [(104, 7)] I J (f64_18 r fu y2 I J) := by
  intro fu
  induction fu with
  | zero => intros; intro _ _ _ h; cases h
  | succ fu ih =>
    intro y2 I J
    rw [f64_18]
    exact fr_ite (fr_ltI (ag_pw ag_refl (List.mem_of_elem_eq_true rfl)) (fun I2 hI2 => fr_ite (fr_ite (fr_bd fr_65 (fun _ h => h) (fun _ h => h) hI2 aj_refl (fun ov5 I6 J7 hI6 hJ7 => fr_tl (ih _ _ _) (fun _ h => h) (fun _ h => h) hI6 hJ7)) (fr_tl (ih _ _ _) (fun _ h => h) (fun _ h => h) hI2 aj_refl)) (fr_tl (ih _ _ _) (fun _ h => h) (fun _ h => h) hI2 aj_refl))) (fr_some ag_refl aj_refl)
theorem fr_64 {r : Nat} {I : Nat → Nat → Int32} {J : Nat → Nat → Int64} : pm_fr [8, 12, 106, 107, 108] [(104, 7), (104, 8)] I J (f64 r I J) := by
  unfold f64
  exact fr_ltI (ag_w ag_refl (Or.inr (List.mem_of_elem_eq_true rfl))) (fun I1 hI1 => fr_ltI (ag_w hI1 (Or.inr (List.mem_of_elem_eq_true rfl))) (fun I2 hI2 => fr_tl (fr_64_18 _ _ _ _) (fun _ h => h) (zt_subF rfl) hI2 aj_refl))
theorem fr_67_11 {r : Nat} : ∀ (fu : Nat) (y2 : Int32) (y3 : Int32) (y4 : Int32) (I : (Nat → Nat → Int32)) (J : (Nat → Nat → Int64)), pm_fr [109, 111] [] I J (f67_11 r fu y2 y3 y4 I J) := by
  intro fu
  induction fu with
  | zero => intros; intro _ _ _ h; cases h
  | succ fu ih =>
    intro y2 y3 y4 I J
    rw [f67_11]
    exact fr_ite (fr_bd fr_57 (fun _ h => absurd h (List.not_mem_nil)) (fun _ h => h) ag_refl aj_refl (fun ov2 I3 J4 hI3 hJ4 => fr_ltI (ag_pw hI3 (List.mem_of_elem_eq_true rfl)) (fun I6 hI6 => fr_ltI (ag_pw hI6 (List.mem_of_elem_eq_true rfl)) (fun I7 hI7 => fr_tl (ih _ _ _ _ _) (fun _ h => h) (fun _ h => h) hI7 hJ4)))) (fr_some ag_refl aj_refl)
theorem fr_67 {r : Nat} {I : Nat → Nat → Int32} {J : Nat → Nat → Int64} : pm_fr [109, 111] [] I J (f67 r I J) := by
  unfold f67
  exact fr_bd fr_36 (fun _ h => absurd h (List.not_mem_nil)) (fun _ h => h) ag_refl aj_refl (fun ov1 I2 J3 hI2 hJ3 => fr_tl (fr_67_11 _ _ _ _ _ _) (fun _ h => h) (fun _ h => h) hI2 hJ3)
theorem fr_70 {x1 : Int32} {I : Nat → Nat → Int32} {J : Nat → Nat → Int64} : pm_fr [] [] I J (f70 x1 I J) := by
  unfold f70
  exact fr_ite (fr_some ag_refl aj_refl) (fr_ite (fr_gd (fr_some ag_refl aj_refl)) (fr_some ag_refl aj_refl))
theorem fr_69_15  : ∀ (fu : Nat) (y1 : Int32) (y2 : Int32) (y3 : Int64) (y5 : Int32) (y6 : Int32) (I : (Nat → Nat → Int32)) (J : (Nat → Nat → Int64)), pm_fr [] [] I J (f69_15 fu y1 y2 y3 y5 y6 I J) := by
  intro fu
  induction fu with
  | zero => intros; intro _ _ _ h; cases h
  | succ fu ih =>
    intro y1 y2 y3 y5 y6 I J
    rw [f69_15]
    exact fr_ite (fr_ite (fr_tl (ih _ _ _ _ _ _ _) (fun _ h => h) (fun _ h => h) ag_refl aj_refl) (fr_ltN (fun u3 => fr_bd fr_70 (fun _ h => h) (fun _ h => h) ag_refl aj_refl (fun ov4 I5 J6 hI5 hJ6 => fr_tl (ih _ _ _ _ _ _ _) (fun _ h => h) (fun _ h => h) hI5 hJ6)))) (fr_some ag_refl aj_refl)
theorem fr_69 {x1 : Int32} {x2 : Int32} {I : Nat → Nat → Int32} {J : Nat → Nat → Int64} : pm_fr [] [] I J (f69 x1 x2 I J) := by
  unfold f69
  exact fr_bd fr_70 (fun _ h => h) (fun _ h => h) ag_refl aj_refl (fun ov1 I2 J3 hI2 hJ3 => fr_tl (fr_69_15 _ _ _ _ _ _ _ _) (fun _ h => h) (fun _ h => h) hI2 hJ3)
theorem fr_72_2  : ∀ (fu : Nat) (y1 : Int32) (I : (Nat → Nat → Int32)) (J : (Nat → Nat → Int64)), pm_fr [110] [(104, 9)] I J (f72_2 fu y1 I J) := by
  intro fu
  induction fu with
  | zero => intros; intro _ _ _ h; cases h
  | succ fu ih =>
    intro y1 I J
    rw [f72_2]
    exact fr_ite (fr_ite (fr_ltI (ag_pw ag_refl (List.mem_of_elem_eq_true rfl)) (fun I5 hI5 => fr_ltI (ag_w hI5 (Or.inr (List.mem_of_elem_eq_true rfl))) (fun I6 hI6 => fr_some hI6 aj_refl))) (fr_ltI (ag_pw ag_refl (List.mem_of_elem_eq_true rfl)) (fun I3 hI3 => fr_ltI (ag_w hI3 (Or.inr (List.mem_of_elem_eq_true rfl))) (fun I4 hI4 => fr_tl (ih _ _ _) (fun _ h => h) (fun _ h => h) hI4 aj_refl)))) (fr_some ag_refl aj_refl)
theorem fr_72 {I : Nat → Nat → Int32} {J : Nat → Nat → Int64} : pm_fr [110] [(104, 9)] I J (f72 I J) := by
  unfold f72
  exact fr_tl (fr_72_2 _ _ _ _) (fun _ h => h) (fun _ h => h) ag_refl aj_refl
theorem fr_68_L  : ∀ (fu : Nat) (z1 : Nat) (y1 : Int32) (y2 : Int32) (y3 : Int32) (y4 : Int32) (I : (Nat → Nat → Int32)) (J : (Nat → Nat → Int64)), pm_fr [110] [(104, 9)] I J (f68_L fu z1 y1 y2 y3 y4 I J) := by
  intro fu
  induction fu with
  | zero => intros; intro _ _ _ h; cases h
  | succ fu ih =>
    intro lab
    rcases lab with _ | lab
    · intro y1 y2 y3 y4 I J
      rw [f68_L]
      exact fr_ite (fr_ltI (ag_pw ag_refl (List.mem_of_elem_eq_true rfl)) (fun I2 hI2 => fr_tl (ih _ _ _ _ _ _ _) (fun _ h => h) (fun _ h => h) hI2 aj_refl)) (fr_tl (ih _ _ _ _ _ _ _) (fun _ h => h) (fun _ h => h) ag_refl aj_refl)
    · intro y1 _ y3 y4 I J
      rw [f68_L]
      exact fr_ite (fr_some ag_refl aj_refl) (fr_ite (fr_bd fr_72 (fun _ h => h) (fun _ h => h) ag_refl aj_refl (fun ov5 I6 J7 hI6 hJ7 => fr_tl (ih _ _ _ _ _ _ _) (fun _ h => h) (fun _ h => h) hI6 hJ7)) (fr_ite (fr_bd fr_69 (fun _ h => absurd h (List.not_mem_nil)) (fun _ h => absurd h (List.not_mem_nil)) ag_refl aj_refl (fun ov14 I15 J16 hI15 hJ16 => fr_gd (fr_ltJ (aj_w hJ16) (fun J19 hJ19 => fr_bd fr_72 (fun _ h => h) (fun _ h => h) hI15 hJ19 (fun ov20 I21 J22 hI21 hJ22 => fr_tl (ih _ _ _ _ _ _ _) (fun _ h => h) (fun _ h => h) hI21 hJ22))))) (fr_bd fr_72 (fun _ h => h) (fun _ h => h) ag_refl aj_refl (fun ov10 I11 J12 hI11 hJ12 => fr_tl (ih _ _ _ _ _ _ _) (fun _ h => h) (fun _ h => h) hI11 hJ12))))
theorem fr_68 {x1 : Int32} {x2 : Int32} {x3 : Int32} {I : Nat → Nat → Int32} {J : Nat → Nat → Int64} : pm_fr [110] [(104, 9)] I J (f68 x1 x2 x3 I J) := by
  unfold f68
  exact fr_ltI (ag_w ag_refl (Or.inr (List.mem_of_elem_eq_true rfl))) (fun I1 hI1 => fr_tl (fr_68_L _ _ _ _ _ _ _ _) (fun _ h => h) (fun _ h => h) hI1 aj_refl)
theorem fr_73_33  : ∀ (fu : Nat) (y3 : Int32) (I : (Nat → Nat → Int32)) (J : (Nat → Nat → Int64)), pm_fr [] [(104, 11)] I J (f73_33 fu y3 I J) := by
  intro fu
  induction fu with
  | zero => intros; intro _ _ _ h; cases h
  | succ fu ih =>
    intro y3 I J
    rw [f73_33]
    exact fr_ite (fr_ite (fr_tl (ih _ _ _) (fun _ h => h) (fun _ h => h) ag_refl aj_refl) (fr_ltI (ag_w ag_refl (Or.inr (List.mem_of_elem_eq_true rfl))) (fun I3 hI3 => fr_tl (ih _ _ _) (fun _ h => h) (fun _ h => h) hI3 aj_refl))) (fr_some ag_refl aj_refl)
theorem fr_73 {x1 : Int64} {I : Nat → Nat → Int32} {J : Nat → Nat → Int64} : pm_fr [] [(104, 10), (104, 11), (104, 12)] I J (f73 x1 I J) := by
  unfold f73
  exact fr_ltI (ag_w ag_refl (Or.inr (List.mem_of_elem_eq_true rfl))) (fun I1 hI1 => fr_ltI (ag_w hI1 (Or.inr (List.mem_of_elem_eq_true rfl))) (fun I2 hI2 => fr_ltI (ag_w hI2 (Or.inr (List.mem_of_elem_eq_true rfl))) (fun I3 hI3 => fr_tl (fr_73_33 _ _ _ _) (fun _ h => h) (zt_subF rfl) hI3 aj_refl)))
theorem fr_63_L {r : Nat} : ∀ (fu : Nat) (z1 : Nat) (y2 : Int32) (y3 : Int32) (y4 : Int32) (I : (Nat → Nat → Int32)) (J : (Nat → Nat → Int64)), pm_fr [110] [(104, 9), (104, 10), (104, 11), (104, 12)] I J (f63_L r fu z1 y2 y3 y4 I J) := by
  intro fu
  induction fu with
  | zero => intros; intro _ _ _ h; cases h
  | succ fu ih =>
    intro lab
    rcases lab with _ | lab
    · intro y2 y3 _ I J
      rw [f63_L]
      exact fr_ite (fr_bd fr_36 (fun _ h => absurd h (List.not_mem_nil)) (fun _ h => absurd h (List.not_mem_nil)) ag_refl aj_refl (fun ov2 I3 J4 hI3 hJ4 => fr_tl (ih _ _ _ _ _ _) (fun _ h => h) (fun _ h => h) hI3 hJ4)) (fr_ite (fr_gd (fr_ltJ (aj_w aj_refl) (fun J12 hJ12 => fr_tl (ih _ _ _ _ _ _) (fun _ h => h) (fun _ h => h) ag_refl hJ12))) (fr_bd fr_36 (fun _ h => absurd h (List.not_mem_nil)) (fun _ h => absurd h (List.not_mem_nil)) ag_refl aj_refl (fun ov7 I8 J9 hI8 hJ9 => fr_tl (ih _ _ _ _ _ _) (fun _ h => h) (fun _ h => h) hI8 hJ9)))
    · intro y2 y3 y4 I J
      rw [f63_L]
      exact fr_ite (fr_ite (fr_bd fr_73 (fun _ h => absurd h (List.not_mem_nil)) (zt_subF rfl) ag_refl aj_refl (fun ov15 I16 J17 hI16 hJ17 => fr_some hI16 hJ17)) (fr_ite (fr_gd (fr_bd fr_73 (fun _ h => absurd h (List.not_mem_nil)) (zt_subF rfl) ag_refl aj_refl (fun ov25 I26 J27 hI26 hJ27 => fr_some hI26 hJ27))) (fr_bd fr_73 (fun _ h => absurd h (List.not_mem_nil)) (zt_subF rfl) ag_refl aj_refl (fun ov20 I21 J22 hI21 hJ22 => fr_some hI21 hJ22)))) (fr_bd fr_68 (fun _ h => h) (zt_subF rfl) ag_refl aj_refl (fun ov29 I30 J31 hI30 hJ31 => fr_tl (ih _ _ _ _ _ _) (fun _ h => h) (fun _ h => h) hI30 hJ31))
theorem fr_63 {r : Nat} {I : Nat → Nat → Int32} {J : Nat → Nat → Int64} : pm_fr [8, 12, 106, 107, 108, 109, 110, 111] [(104, 7), (104, 8), (104, 9), (104, 10), (104, 11), (104, 12)] I J (f63 r I J) := by
  unfold f63
  exact fr_bd fr_64 (zt_sub rfl) (zt_subF rfl) ag_refl aj_refl (fun ov1 I2 J3 hI2 hJ3 => fr_bd fr_67 (zt_sub rfl) (fun _ h => absurd h (List.not_mem_nil)) hI2 hJ3 (fun ov5 I6 J7 hI6 hJ7 => fr_tl (fr_63_L _ _ _ _ _ _ _) (zt_sub rfl) (zt_subF rfl) hI6 hJ7))
theorem fr_77 {x1 : Int32} {I : Nat → Nat → Int32} {J : Nat → Nat → Int64} : pm_fr [] [] I J (f77 x1 I J) := by
  unfold f77
  exact fr_ite (fr_some ag_refl aj_refl) (fr_ite (fr_gd (fr_some ag_refl aj_refl)) (fr_some ag_refl aj_refl))
theorem fr_88 {I : Nat → Nat → Int32} {J : Nat → Nat → Int64} : pm_fr [] [] I J (f88 I J) := by
  unfold f88
  exact fr_bd fr_132 (fun _ h => h) (fun _ h => h) ag_refl aj_refl (fun ov1 I2 J3 hI2 hJ3 => fr_ite (fr_some hI2 hJ3) (fr_bd fr_132 (fun _ h => h) (fun _ h => h) hI2 hJ3 (fun ov6 I7 J8 hI7 hJ8 => fr_ite (fr_some hI7 hJ8) (fr_bd fr_132 (fun _ h => h) (fun _ h => h) hI7 hJ8 (fun ov11 I12 J13 hI12 hJ13 => fr_ite (fr_some hI12 hJ13) (fr_bd fr_132 (fun _ h => h) (fun _ h => h) hI12 hJ13 (fun ov16 I17 J18 hI17 hJ18 => fr_ite (fr_some hI17 hJ18) (fr_bd fr_132 (fun _ h => h) (fun _ h => h) hI17 hJ18 (fun ov21 I22 J23 hI22 hJ23 => fr_ite (fr_some hI22 hJ23) (fr_some hI22 hJ23))))))))))
theorem fr_89 {a0 : Nat} {I : Nat → Nat → Int32} {J : Nat → Nat → Int64} : pm_fr [a0 + 1, a0 + 2, a0 + 3, a0 + 4] [(1, 3), (1, 4), (1, 5), (1, 6), (1, 7), (1, 8), (a0, 7)] I J (f89 a0 I J) := by
  unfold f89
  exact fr_bd fr_134 (fun _ h => absurd h (List.not_mem_nil)) (by first | (simp; done) | (split <;> simp)) ag_refl aj_refl (fun ov1 I2 J3 hI2 hJ3 => fr_ltI (ag_pw hI2 (by simp)) (fun I5 hI5 => fr_bd fr_134 (fun _ h => absurd h (List.not_mem_nil)) (by first | (simp; done) | (split <;> simp)) hI5 hJ3 (fun ov6 I7 J8 hI7 hJ8 => fr_ltI (ag_pw hI7 (by simp)) (fun I10 hI10 => fr_bd fr_134 (fun _ h => absurd h (List.not_mem_nil)) (by first | (simp; done) | (split <;> simp)) hI10 hJ8 (fun ov11 I12 J13 hI12 hJ13 => fr_ltI (ag_pw hI12 (by simp)) (fun I15 hI15 => fr_ltI (ag_pw hI15 (by simp)) (fun I16 hI16 => fr_ltI (ag_w hI16 (Or.inr (by simp))) (fun I17 hI17 => fr_some hI17 hJ13))))))))
theorem fr_90 {a0 : Nat} {I : Nat → Nat → Int32} {J : Nat → Nat → Int64} : pm_fr [a0 + 5, a0 + 6, a0 + 7] [(1, 3), (1, 4), (1, 5), (1, 6), (1, 7), (1, 8), (a0, 8)] I J (f90 a0 I J) := by
  unfold f90
  exact fr_bd fr_134 (fun _ h => absurd h (List.not_mem_nil)) (by first | (simp; done) | (split <;> simp)) ag_refl aj_refl (fun ov1 I2 J3 hI2 hJ3 => fr_ltI (ag_pw hI2 (by simp)) (fun I5 hI5 => fr_bd fr_134 (fun _ h => absurd h (List.not_mem_nil)) (by first | (simp; done) | (split <;> simp)) hI5 hJ3 (fun ov6 I7 J8 hI7 hJ8 => fr_ltI (ag_pw hI7 (by simp)) (fun I10 hI10 => fr_bd fr_134 (fun _ h => absurd h (List.not_mem_nil)) (by first | (simp; done) | (split <;> simp)) hI10 hJ8 (fun ov11 I12 J13 hI12 hJ13 => fr_ltI (ag_pw hI12 (by simp)) (fun I15 hI15 => fr_ltI (ag_w hI15 (Or.inr (by simp))) (fun I16 hI16 => fr_some hI16 hJ13)))))))
theorem fr_91 {a0 : Nat} {I : Nat → Nat → Int32} {J : Nat → Nat → Int64} : pm_fr [a0 + 4] [(1, 3), (1, 4), (1, 5), (1, 6), (1, 7), (1, 8)] I J (f91 a0 I J) := by
  unfold f91
  exact fr_bd fr_134 (fun _ h => absurd h (List.not_mem_nil)) (fun _ h => h) ag_refl aj_refl (fun ov1 I2 J3 hI2 hJ3 => fr_bd fr_134 (fun _ h => absurd h (List.not_mem_nil)) (fun _ h => h) hI2 hJ3 (fun ov5 I6 J7 hI6 hJ7 => fr_ltI (ag_pw hI6 (by simp)) (fun I9 hI9 => fr_some hI9 hJ7)))
theorem fr_87 {a0 : Nat} {x2 : Int32} {I : Nat → Nat → Int32} {J : Nat → Nat → Int64} : pm_fr [a0 + 1, a0 + 2, a0 + 3, a0 + 4, a0 + 5, a0 + 6, a0 + 7] [(1, 3), (1, 4), (1, 5), (1, 6), (1, 7), (1, 8), (a0, 7), (a0, 8), (a0, 9), (a0, 10)] I J (f87 a0 x2 I J) := by
  unfold f87
  exact fr_bd fr_88 (fun _ h => absurd h (List.not_mem_nil)) (fun _ h => absurd h (List.not_mem_nil)) ag_refl aj_refl (fun ov1 I2 J3 hI2 hJ3 => fr_ite (fr_bd fr_133 (fun _ h => absurd h (List.not_mem_nil)) (by first | (simp; done) | (split <;> simp)) hI2 hJ3 (fun ov229 I230 J231 hI230 hJ231 => fr_some hI230 hJ231)) (fr_ite (fr_ite (fr_ite (fr_ite (fr_ite (fr_bd fr_128 (fun _ h => absurd h (List.not_mem_nil)) (by first | (simp; done) | (split <;> simp)) hI2 hJ3 (fun ov175 I176 J177 hI176 hJ177 => fr_ite (fr_bd fr_89 (by first | (simp; done) | (split <;> simp)) (by first | (simp; done) | (split <;> simp)) hI176 hJ177 (fun ov180 I181 J182 hI181 hJ182 => fr_bd fr_135 (fun _ h => absurd h (List.not_mem_nil)) (by first | (simp; done) | (split <;> simp)) hI181 hJ182 (fun ov184 I185 J186 hI185 hJ186 => fr_some hI185 hJ186))) (fr_ite (fr_bd fr_90 (by first | (simp; done) | (split <;> simp)) (by first | (simp; done) | (split <;> simp)) hI176 hJ177 (fun ov189 I190 J191 hI190 hJ191 => fr_bd fr_135 (fun _ h => absurd h (List.not_mem_nil)) (by first | (simp; done) | (split <;> simp)) hI190 hJ191 (fun ov193 I194 J195 hI194 hJ195 => fr_some hI194 hJ195))) (fr_ite (fr_bd fr_91 (by first | (simp; done) | (split <;> simp)) (by first | (simp; done) | (split <;> simp)) hI176 hJ177 (fun ov198 I199 J200 hI199 hJ200 => fr_bd fr_135 (fun _ h => absurd h (List.not_mem_nil)) (by first | (simp; done) | (split <;> simp)) hI199 hJ200 (fun ov202 I203 J204 hI203 hJ204 => fr_some hI203 hJ204))) (fr_ite (fr_bd fr_134 (fun _ h => absurd h (List.not_mem_nil)) (by first | (simp; done) | (split <;> simp)) hI176 hJ177 (fun ov207 I208 J209 hI208 hJ209 => fr_ltI (ag_w hI208 (Or.inr (by simp))) (fun I211 hI211 => fr_bd fr_135 (fun _ h => absurd h (List.not_mem_nil)) (by first | (simp; done) | (split <;> simp)) hI211 hJ209 (fun ov212 I213 J214 hI213 hJ214 => fr_some hI213 hJ214)))) (fr_bd fr_134 (fun _ h => absurd h (List.not_mem_nil)) (by first | (simp; done) | (split <;> simp)) hI176 hJ177 (fun ov216 I217 J218 hI217 hJ218 => fr_ltI (ag_w hI217 (Or.inr (by simp))) (fun I220 hI220 => fr_bd fr_135 (fun _ h => absurd h (List.not_mem_nil)) (by first | (simp; done) | (split <;> simp)) hI220 hJ218 (fun ov221 I222 J223 hI222 hJ223 => fr_some hI222 hJ223))))))))) (fr_bd fr_133 (fun _ h => absurd h (List.not_mem_nil)) (by first | (simp; done) | (split <;> simp)) hI2 hJ3 (fun ov225 I226 J227 hI226 hJ227 => fr_some hI226 hJ227))) (fr_bd fr_128 (fun _ h => absurd h (List.not_mem_nil)) (by first | (simp; done) | (split <;> simp)) hI2 hJ3 (fun ov124 I125 J126 hI125 hJ126 => fr_ite (fr_bd fr_89 (by first | (simp; done) | (split <;> simp)) (by first | (simp; done) | (split <;> simp)) hI125 hJ126 (fun ov129 I130 J131 hI130 hJ131 => fr_bd fr_135 (fun _ h => absurd h (List.not_mem_nil)) (by first | (simp; done) | (split <;> simp)) hI130 hJ131 (fun ov133 I134 J135 hI134 hJ135 => fr_some hI134 hJ135))) (fr_ite (fr_bd fr_90 (by first | (simp; done) | (split <;> simp)) (by first | (simp; done) | (split <;> simp)) hI125 hJ126 (fun ov138 I139 J140 hI139 hJ140 => fr_bd fr_135 (fun _ h => absurd h (List.not_mem_nil)) (by first | (simp; done) | (split <;> simp)) hI139 hJ140 (fun ov142 I143 J144 hI143 hJ144 => fr_some hI143 hJ144))) (fr_ite (fr_bd fr_91 (by first | (simp; done) | (split <;> simp)) (by first | (simp; done) | (split <;> simp)) hI125 hJ126 (fun ov147 I148 J149 hI148 hJ149 => fr_bd fr_135 (fun _ h => absurd h (List.not_mem_nil)) (by first | (simp; done) | (split <;> simp)) hI148 hJ149 (fun ov151 I152 J153 hI152 hJ153 => fr_some hI152 hJ153))) (fr_ite (fr_bd fr_134 (fun _ h => absurd h (List.not_mem_nil)) (by first | (simp; done) | (split <;> simp)) hI125 hJ126 (fun ov156 I157 J158 hI157 hJ158 => fr_ltI (ag_w hI157 (Or.inr (by simp))) (fun I160 hI160 => fr_bd fr_135 (fun _ h => absurd h (List.not_mem_nil)) (by first | (simp; done) | (split <;> simp)) hI160 hJ158 (fun ov161 I162 J163 hI162 hJ163 => fr_some hI162 hJ163)))) (fr_bd fr_134 (fun _ h => absurd h (List.not_mem_nil)) (by first | (simp; done) | (split <;> simp)) hI125 hJ126 (fun ov165 I166 J167 hI166 hJ167 => fr_ltI (ag_w hI166 (Or.inr (by simp))) (fun I169 hI169 => fr_bd fr_135 (fun _ h => absurd h (List.not_mem_nil)) (by first | (simp; done) | (split <;> simp)) hI169 hJ167 (fun ov170 I171 J172 hI171 hJ172 => fr_some hI171 hJ172)))))))))) (fr_bd fr_133 (fun _ h => absurd h (List.not_mem_nil)) (by first | (simp; done) | (split <;> simp)) hI2 hJ3 (fun ov119 I120 J121 hI120 hJ121 => fr_some hI120 hJ121))) (fr_ite (fr_ite (fr_bd fr_128 (fun _ h => absurd h (List.not_mem_nil)) (by first | (simp; done) | (split <;> simp)) hI2 hJ3 (fun ov64 I65 J66 hI65 hJ66 => fr_ite (fr_bd fr_89 (by first | (simp; done) | (split <;> simp)) (by first | (simp; done) | (split <;> simp)) hI65 hJ66 (fun ov69 I70 J71 hI70 hJ71 => fr_bd fr_135 (fun _ h => absurd h (List.not_mem_nil)) (by first | (simp; done) | (split <;> simp)) hI70 hJ71 (fun ov73 I74 J75 hI74 hJ75 => fr_some hI74 hJ75))) (fr_ite (fr_bd fr_90 (by first | (simp; done) | (split <;> simp)) (by first | (simp; done) | (split <;> simp)) hI65 hJ66 (fun ov78 I79 J80 hI79 hJ80 => fr_bd fr_135 (fun _ h => absurd h (List.not_mem_nil)) (by first | (simp; done) | (split <;> simp)) hI79 hJ80 (fun ov82 I83 J84 hI83 hJ84 => fr_some hI83 hJ84))) (fr_ite (fr_bd fr_91 (by first | (simp; done) | (split <;> simp)) (by first | (simp; done) | (split <;> simp)) hI65 hJ66 (fun ov87 I88 J89 hI88 hJ89 => fr_bd fr_135 (fun _ h => absurd h (List.not_mem_nil)) (by first | (simp; done) | (split <;> simp)) hI88 hJ89 (fun ov91 I92 J93 hI92 hJ93 => fr_some hI92 hJ93))) (fr_ite (fr_bd fr_134 (fun _ h => absurd h (List.not_mem_nil)) (by first | (simp; done) | (split <;> simp)) hI65 hJ66 (fun ov96 I97 J98 hI97 hJ98 => fr_ltI (ag_w hI97 (Or.inr (by simp))) (fun I100 hI100 => fr_bd fr_135 (fun _ h => absurd h (List.not_mem_nil)) (by first | (simp; done) | (split <;> simp)) hI100 hJ98 (fun ov101 I102 J103 hI102 hJ103 => fr_some hI102 hJ103)))) (fr_bd fr_134 (fun _ h => absurd h (List.not_mem_nil)) (by first | (simp; done) | (split <;> simp)) hI65 hJ66 (fun ov105 I106 J107 hI106 hJ107 => fr_ltI (ag_w hI106 (Or.inr (by simp))) (fun I109 hI109 => fr_bd fr_135 (fun _ h => absurd h (List.not_mem_nil)) (by first | (simp; done) | (split <;> simp)) hI109 hJ107 (fun ov110 I111 J112 hI111 hJ112 => fr_some hI111 hJ112))))))))) (fr_bd fr_133 (fun _ h => absurd h (List.not_mem_nil)) (by first | (simp; done) | (split <;> simp)) hI2 hJ3 (fun ov114 I115 J116 hI115 hJ116 => fr_some hI115 hJ116))) (fr_bd fr_128 (fun _ h => absurd h (List.not_mem_nil)) (by first | (simp; done) | (split <;> simp)) hI2 hJ3 (fun ov13 I14 J15 hI14 hJ15 => fr_ite (fr_bd fr_89 (by first | (simp; done) | (split <;> simp)) (by first | (simp; done) | (split <;> simp)) hI14 hJ15 (fun ov18 I19 J20 hI19 hJ20 => fr_bd fr_135 (fun _ h => absurd h (List.not_mem_nil)) (by first | (simp; done) | (split <;> simp)) hI19 hJ20 (fun ov22 I23 J24 hI23 hJ24 => fr_some hI23 hJ24))) (fr_ite (fr_bd fr_90 (by first | (simp; done) | (split <;> simp)) (by first | (simp; done) | (split <;> simp)) hI14 hJ15 (fun ov27 I28 J29 hI28 hJ29 => fr_bd fr_135 (fun _ h => absurd h (List.not_mem_nil)) (by first | (simp; done) | (split <;> simp)) hI28 hJ29 (fun ov31 I32 J33 hI32 hJ33 => fr_some hI32 hJ33))) (fr_ite (fr_bd fr_91 (by first | (simp; done) | (split <;> simp)) (by first | (simp; done) | (split <;> simp)) hI14 hJ15 (fun ov36 I37 J38 hI37 hJ38 => fr_bd fr_135 (fun _ h => absurd h (List.not_mem_nil)) (by first | (simp; done) | (split <;> simp)) hI37 hJ38 (fun ov40 I41 J42 hI41 hJ42 => fr_some hI41 hJ42))) (fr_ite (fr_bd fr_134 (fun _ h => absurd h (List.not_mem_nil)) (by first | (simp; done) | (split <;> simp)) hI14 hJ15 (fun ov45 I46 J47 hI46 hJ47 => fr_ltI (ag_w hI46 (Or.inr (by simp))) (fun I49 hI49 => fr_bd fr_135 (fun _ h => absurd h (List.not_mem_nil)) (by first | (simp; done) | (split <;> simp)) hI49 hJ47 (fun ov50 I51 J52 hI51 hJ52 => fr_some hI51 hJ52)))) (fr_bd fr_134 (fun _ h => absurd h (List.not_mem_nil)) (by first | (simp; done) | (split <;> simp)) hI14 hJ15 (fun ov54 I55 J56 hI55 hJ56 => fr_ltI (ag_w hI55 (Or.inr (by simp))) (fun I58 hI58 => fr_bd fr_135 (fun _ h => absurd h (List.not_mem_nil)) (by first | (simp; done) | (split <;> simp)) hI58 hJ56 (fun ov59 I60 J61 hI60 hJ61 => fr_some hI60 hJ61))))))))))) (fr_bd fr_133 (fun _ h => absurd h (List.not_mem_nil)) (by first | (simp; done) | (split <;> simp)) hI2 hJ3 (fun ov7 I8 J9 hI8 hJ9 => fr_some hI8 hJ9))))
theorem fr_86_24 {a0 : Nat} : ∀ (fu : Nat) (y2 : Int32) (I : (Nat → Nat → Int32)) (J : (Nat → Nat → Int64)), pm_fr [a0 + 1, a0 + 2, a0 + 3, a0 + 4, a0 + 5, a0 + 6, a0 + 7] [(1, 3), (1, 4), (1, 5), (1, 6), (1, 7), (1, 8), (a0, 7), (a0, 8), (a0, 9), (a0, 10)] I J (f86_24 a0 fu y2 I J) := by
  intro fu
  induction fu with
  | zero => intros; intro _ _ _ h; cases h
  | succ fu ih =>
    intro y2 I J
    rw [f86_24]
    exact fr_ite (fr_some ag_refl aj_refl) (fr_ite (fr_ite (fr_bd fr_87 (by first | (simp; done) | (split <;> simp)) (by first | (simp; done) | (split <;> simp)) ag_refl aj_refl (fun ov8 I9 J10 hI9 hJ10 => fr_tl (ih _ _ _) (fun _ h => h) (fun _ h => h) hI9 hJ10)) (fr_bd fr_87 (by first | (simp; done) | (split <;> simp)) (by first | (simp; done) | (split <;> simp)) ag_refl aj_refl (fun ov4 I5 J6 hI5 hJ6 => fr_tl (ih _ _ _) (fun _ h => h) (fun _ h => h) hI5 hJ6))) (fr_some ag_refl aj_refl))
theorem fr_86 {a0 : Nat} {I : Nat → Nat → Int32} {J : Nat → Nat → Int64} : pm_fr [a0 + 1, a0 + 2, a0 + 3, a0 + 4, a0 + 5, a0 + 6, a0 + 7] [(1, 3), (1, 4), (1, 5), (1, 6), (1, 7), (1, 8), (a0, 7), (a0, 8), (a0, 9), (a0, 10)] I J (f86 a0 I J) := by
  unfold f86
  exact fr_ltI (ag_w ag_refl (Or.inr (by simp))) (fun I1 hI1 => fr_ltI (ag_w hI1 (Or.inr (by simp))) (fun I2 hI2 => fr_ltI (ag_w hI2 (Or.inr (by simp))) (fun I3 hI3 => fr_ltI (ag_w hI3 (Or.inr (by simp))) (fun I4 hI4 => fr_tl (fr_86_24 _ _ _ _) (by first | (simp; done) | (split <;> simp)) (by first | (simp; done) | (split <;> simp)) hI4 aj_refl))))
theorem fr_113 {I : Nat → Nat → Int32} {J : Nat → Nat → Int64} : pm_fr [] [] I J (f113 I J) := by
  unfold f113
  exact fr_bd fr_132 (fun _ h => h) (fun _ h => h) ag_refl aj_refl (fun ov1 I2 J3 hI2 hJ3 => fr_ite (fr_some hI2 hJ3) (fr_bd fr_132 (fun _ h => h) (fun _ h => h) hI2 hJ3 (fun ov6 I7 J8 hI7 hJ8 => fr_ite (fr_some hI7 hJ8) (fr_bd fr_132 (fun _ h => h) (fun _ h => h) hI7 hJ8 (fun ov11 I12 J13 hI12 hJ13 => fr_ite (fr_some hI12 hJ13) (fr_bd fr_132 (fun _ h => h) (fun _ h => h) hI12 hJ13 (fun ov16 I17 J18 hI17 hJ18 => fr_ite (fr_some hI17 hJ18) (fr_bd fr_132 (fun _ h => h) (fun _ h => h) hI17 hJ18 (fun ov21 I22 J23 hI22 hJ23 => fr_ite (fr_some hI22 hJ23) (fr_bd fr_132 (fun _ h => h) (fun _ h => h) hI22 hJ23 (fun ov26 I27 J28 hI27 hJ28 => fr_ite (fr_some hI27 hJ28) (fr_bd fr_132 (fun _ h => h) (fun _ h => h) hI27 hJ28 (fun ov31 I32 J33 hI32 hJ33 => fr_ite (fr_some hI32 hJ33) (fr_bd fr_132 (fun _ h => h) (fun _ h => h) hI32 hJ33 (fun ov36 I37 J38 hI37 hJ38 => fr_ite (fr_some hI37 hJ38) (fr_bd fr_132 (fun _ h => h) (fun _ h => h) hI37 hJ38 (fun ov41 I42 J43 hI42 hJ43 => fr_ite (fr_some hI42 hJ43) (fr_some hI42 hJ43))))))))))))))))))
theorem fr_115 {a2 : Nat} {x3 : Int32} {I : Nat → Nat → Int32} {J : Nat → Nat → Int64} : pm_fr [99, 100] [(1, 3), (1, 4), (1, 5), (1, 6), (1, 7), (1, 8)] I J (f115 a2 x3 I J) := by
  unfold f115
  exact fr_ite (fr_some ag_refl aj_refl) (fr_ite (fr_some ag_refl aj_refl) (fr_bd fr_134 (fun _ h => absurd h (List.not_mem_nil)) (fun _ h => h) ag_refl aj_refl (fun ov3 I4 J5 hI4 hJ5 => fr_ltI (ag_pw hI4 (List.mem_of_elem_eq_true rfl)) (fun I7 hI7 => fr_ite (fr_bd fr_134 (fun _ h => absurd h (List.not_mem_nil)) (fun _ h => h) hI7 hJ5 (fun ov15 I16 J17 hI16 hJ17 => fr_ltI (ag_pw hI16 (List.mem_of_elem_eq_true rfl)) (fun I19 hI19 => fr_some hI19 hJ17))) (fr_ite (fr_bd fr_134 (fun _ h => absurd h (List.not_mem_nil)) (fun _ h => h) hI7 hJ5 (fun ov10 I11 J12 hI11 hJ12 => fr_ltI (ag_pw hI11 (List.mem_of_elem_eq_true rfl)) (fun I14 hI14 => fr_some hI14 hJ12))) (fr_some hI7 hJ5))))))
theorem fr_g112 {a2 : Nat} : ∀ (fu : Nat) (z1 : Nat) (z2 : Nat) (x3 : Int32) (y4 : Int32) (I : (Nat → Nat → Int32)) (J : (Nat → Nat → Int64)), pm_fr [98, 99, 100, 101] [(1, 3), (1, 4), (1, 5), (1, 6), (1, 7), (1, 8), (97, 4)] I J (g112 a2 fu z1 z2 x3 y4 I J) := by
  intro fu
  induction fu with
  | zero => intros; intro _ _ _ h; cases h
  | succ fu ih =>
    intro dep lab
    rcases dep with _ | dep
    · intros; intro _ _ _ h; cases h
    · rcases lab with _ | _ | lab
      · intro x3 _ I J
        rw [g112]
        exact fr_bd fr_113 (fun _ h => absurd h (List.not_mem_nil)) (fun _ h => absurd h (List.not_mem_nil)) ag_refl aj_refl (fun ov1 I2 J3 hI2 hJ3 => fr_ite (fr_bd fr_133 (fun _ h => absurd h (List.not_mem_nil)) (zt_subF rfl) hI2 hJ3 (fun ov72 I73 J74 hI73 hJ74 => fr_some hI73 hJ74)) (fr_ite (fr_ite (fr_bd fr_128 (fun _ h => absurd h (List.not_mem_nil)) (zt_subF rfl) hI2 hJ3 (fun ov38 I39 J40 hI39 hJ40 => fr_ltI (ag_w hI39 (Or.inr (List.mem_of_elem_eq_true rfl))) (fun I42 hI42 => fr_ltI (ag_pw hI42 (List.mem_of_elem_eq_true rfl)) (fun I43 hI43 => fr_ite (fr_bd fr_134 (fun _ h => absurd h (List.not_mem_nil)) (zt_subF rfl) hI43 hJ40 (fun ov54 I55 J56 hI55 hJ56 => fr_ltI (ag_pw hI55 (List.mem_of_elem_eq_true rfl)) (fun I58 hI58 => fr_bd (ih _ _ _ _ _ _) (fun _ h => h) (fun _ h => h) hI58 hJ56 (fun ov59 I60 J61 hI60 hJ61 => fr_ltI (ag_pw hI60 (List.mem_of_elem_eq_true rfl)) (fun I63 hI63 => fr_bd fr_135 (fun _ h => absurd h (List.not_mem_nil)) (zt_subF rfl) hI63 hJ61 (fun ov64 I65 J66 hI65 hJ66 => fr_some hI65 hJ66)))))) (fr_bd fr_115 (zt_sub rfl) (zt_subF rfl) hI43 hJ40 (fun ov45 I46 J47 hI46 hJ47 => fr_ltI (ag_pw hI46 (List.mem_of_elem_eq_true rfl)) (fun I49 hI49 => fr_bd fr_135 (fun _ h => absurd h (List.not_mem_nil)) (zt_subF rfl) hI49 hJ47 (fun ov50 I51 J52 hI51 hJ52 => fr_some hI51 hJ52)))))))) (fr_bd fr_133 (fun _ h => absurd h (List.not_mem_nil)) (zt_subF rfl) hI2 hJ3 (fun ov68 I69 J70 hI69 hJ70 => fr_some hI69 hJ70))) (fr_bd fr_128 (fun _ h => absurd h (List.not_mem_nil)) (zt_subF rfl) hI2 hJ3 (fun ov7 I8 J9 hI8 hJ9 => fr_ltI (ag_w hI8 (Or.inr (List.mem_of_elem_eq_true rfl))) (fun I11 hI11 => fr_ltI (ag_pw hI11 (List.mem_of_elem_eq_true rfl)) (fun I12 hI12 => fr_ite (fr_bd fr_134 (fun _ h => absurd h (List.not_mem_nil)) (zt_subF rfl) hI12 hJ9 (fun ov23 I24 J25 hI24 hJ25 => fr_ltI (ag_pw hI24 (List.mem_of_elem_eq_true rfl)) (fun I27 hI27 => fr_bd (ih _ _ _ _ _ _) (fun _ h => h) (fun _ h => h) hI27 hJ25 (fun ov28 I29 J30 hI29 hJ30 => fr_ltI (ag_pw hI29 (List.mem_of_elem_eq_true rfl)) (fun I32 hI32 => fr_bd fr_135 (fun _ h => absurd h (List.not_mem_nil)) (zt_subF rfl) hI32 hJ30 (fun ov33 I34 J35 hI34 hJ35 => fr_some hI34 hJ35)))))) (fr_bd fr_115 (zt_sub rfl) (zt_subF rfl) hI12 hJ9 (fun ov14 I15 J16 hI15 hJ16 => fr_ltI (ag_pw hI15 (List.mem_of_elem_eq_true rfl)) (fun I18 hI18 => fr_bd fr_135 (fun _ h => absurd h (List.not_mem_nil)) (zt_subF rfl) hI18 hJ16 (fun ov19 I20 J21 hI20 hJ21 => fr_some hI20 hJ21))))))))))
      · intro x3 _ I J
        rw [g112]
        exact fr_bd fr_135 (fun _ h => absurd h (List.not_mem_nil)) (zt_subF rfl) ag_refl aj_refl (fun ov1 I2 J3 hI2 hJ3 => fr_tl (ih _ _ _ _ _ _) (fun _ h => h) (fun _ h => h) hI2 hJ3)
      · intro y3 y4 I J
        rw [g112]
        exact fr_ite (fr_ite (fr_bd fr_135 (fun _ h => absurd h (List.not_mem_nil)) (zt_subF rfl) ag_refl aj_refl (fun ov7 I8 J9 hI8 hJ9 => fr_some hI8 hJ9)) (fr_ite (fr_bd fr_135 (fun _ h => absurd h (List.not_mem_nil)) (zt_subF rfl) ag_refl aj_refl (fun ov12 I13 J14 hI13 hJ14 => fr_some hI13 hJ14)) (fr_bd (ih _ _ _ _ _ _) (fun _ h => h) (fun _ h => h) ag_refl aj_refl (fun ov16 I17 J18 hI17 hJ18 => fr_tl (ih _ _ _ _ _ _) (fun _ h => h) (fun _ h => h) hI17 hJ18)))) (fr_bd fr_135 (fun _ h => absurd h (List.not_mem_nil)) (zt_subF rfl) ag_refl aj_refl (fun ov2 I3 J4 hI3 hJ4 => fr_some hI3 hJ4))
theorem fr_112 {a2 : Nat} {x3 : Int32} {I : Nat → Nat → Int32} {J : Nat → Nat → Int64} : pm_fr [98, 99, 100, 101] [(1, 3), (1, 4), (1, 5), (1, 6), (1, 7), (1, 8), (97, 4)] I J (f112 a2 x3 I J) := by
  unfold f112
  exact fr_tl (fr_g112 _ _ _ _ _ _ _) (fun _ h => h) (fun _ h => h) ag_refl aj_refl
theorem fr_114 {a2 : Nat} {x3 : Int32} {I : Nat → Nat → Int32} {J : Nat → Nat → Int64} : pm_fr [98, 99, 100, 101] [(1, 3), (1, 4), (1, 5), (1, 6), (1, 7), (1, 8), (97, 4)] I J (f114 a2 x3 I J) := by
  unfold f114
  exact fr_tl (fr_g112 _ _ _ _ _ _ _) (fun _ h => h) (fun _ h => h) ag_refl aj_refl
theorem fr_111_7 {a2 : Nat} : ∀ (fu : Nat) (y3 : Int32) (I : (Nat → Nat → Int32)) (J : (Nat → Nat → Int64)), pm_fr [98, 99, 100, 101] [(1, 3), (1, 4), (1, 5), (1, 6), (1, 7), (1, 8), (97, 4)] I J (f111_7 a2 fu y3 I J) := by
  intro fu
  induction fu with
  | zero => intros; intro _ _ _ h; cases h
  | succ fu ih =>
    intro y3 I J
    rw [f111_7]
    exact fr_ite (fr_ite (fr_bd fr_112 (fun _ h => h) (fun _ h => h) ag_refl aj_refl (fun ov3 I4 J5 hI4 hJ5 => fr_tl (ih _ _ _) (fun _ h => h) (fun _ h => h) hI4 hJ5)) (fr_some ag_refl aj_refl)) (fr_some ag_refl aj_refl)
theorem fr_111 {a2 : Nat} {I : Nat → Nat → Int32} {J : Nat → Nat → Int64} : pm_fr [98, 99, 100, 101] [(1, 3), (1, 4), (1, 5), (1, 6), (1, 7), (1, 8), (97, 4)] I J (f111 a2 I J) := by
  unfold f111
  exact fr_ltI (ag_w ag_refl (Or.inr (List.mem_of_elem_eq_true rfl))) (fun I1 hI1 => fr_tl (fr_111_7 _ _ _ _) (fun _ h => h) (fun _ h => h) hI1 aj_refl)
theorem fr_116 {I : Nat → Nat → Int32} {J : Nat → Nat → Int64} : pm_fr [] [(97, 5), (97, 6), (97, 7)] I J (f116 I J) := by
  unfold f116
  exact fr_ltI (ag_w ag_refl (Or.inr (List.mem_of_elem_eq_true rfl))) (fun I1 hI1 => fr_ltI (ag_w hI1 (Or.inr (List.mem_of_elem_eq_true rfl))) (fun I2 hI2 => fr_ltI (ag_w hI2 (Or.inr (List.mem_of_elem_eq_true rfl))) (fun I3 hI3 => fr_some hI3 aj_refl)))
theorem fr_g118 {r : Nat} : ∀ (fu : Nat) (z1 : Nat) (z2 : Nat) (x2 : Int32) (x3 : Int32) (x4 : Int32) (y5 : Int32) (I : (Nat → Nat → Int32)) (J : (Nat → Nat → Int64)), pm_fr [5, 8, 12] [(97, 5), (97, 6), (97, 7)] I J (g118 r fu z1 z2 x2 x3 x4 y5 I J) := by
  intro fu
  induction fu with
  | zero => intros; intro _ _ _ h; cases h
  | succ fu ih =>
    intro dep lab
    rcases dep with _ | dep
    · intros; intro _ _ _ h; cases h
    · rcases lab with _ | _ | _ | lab
      · intro x2 x3 x4 _ I J
        rw [g118]
        exact fr_tl (ih _ _ _ _ _ _ _ _) (fun _ h => h) (fun _ h => h) ag_refl aj_refl
      · intro x2 x3 _ _ I J
        rw [g118]
        exact fr_ite (fr_tl (ih _ _ _ _ _ _ _ _) (fun _ h => h) (fun _ h => h) ag_refl aj_refl) (fr_some ag_refl aj_refl)
      · intro _ y3 y4 y5 I J
        rw [g118]
        exact fr_ite (fr_ite (fr_ltI (ag_w ag_refl (Or.inr (List.mem_of_elem_eq_true rfl))) (fun I3 hI3 => fr_ite (fr_bd (ih _ _ _ _ _ _ _ _) (fun _ h => h) (fun _ h => h) hI3 aj_refl (fun ov12 I13 J14 hI13 hJ14 => fr_tl (ih _ _ _ _ _ _ _ _) (fun _ h => h) (fun _ h => h) hI13 hJ14)) (fr_bd fr_39 (fun _ h => h) (fun _ h => absurd h (List.not_mem_nil)) hI3 aj_refl (fun ov5 I6 J7 hI6 hJ7 => fr_ite (fr_ltI (ag_w hI6 (Or.inr (List.mem_of_elem_eq_true rfl))) (fun I11 hI11 => fr_tl (ih _ _ _ _ _ _ _ _) (fun _ h => h) (fun _ h => h) hI11 hJ7)) (fr_ltI (ag_w hI6 (Or.inr (List.mem_of_elem_eq_true rfl))) (fun I10 hI10 => fr_tl (ih _ _ _ _ _ _ _ _) (fun _ h => h) (fun _ h => h) hI10 hJ7)))))) (fr_some ag_refl aj_refl)) (fr_some ag_refl aj_refl)
      · intro y2 y3 y4 _ I J
        rw [g118]
        exact fr_ite (fr_ite (fr_bd (ih _ _ _ _ _ _ _ _) (fun _ h => h) (fun _ h => h) ag_refl aj_refl (fun ov3 I4 J5 hI4 hJ5 => fr_tl (ih _ _ _ _ _ _ _ _) (fun _ h => h) (fun _ h => h) hI4 hJ5)) (fr_some ag_refl aj_refl)) (fr_some ag_refl aj_refl)
theorem fr_118 {r : Nat} {x2 : Int32} {x3 : Int32} {x4 : Int32} {I : Nat → Nat → Int32} {J : Nat → Nat → Int64} : pm_fr [5, 8, 12] [(97, 5), (97, 6), (97, 7)] I J (f118 r x2 x3 x4 I J) := by
  unfold f118
  exact fr_tl (fr_g118 _ _ _ _ _ _ _ _ _) (fun _ h => h) (fun _ h => h) ag_refl aj_refl
theorem fr_119 {r : Nat} {x2 : Int32} {x3 : Int32} {I : Nat → Nat → Int32} {J : Nat → Nat → Int64} : pm_fr [5, 8, 12] [(97, 5), (97, 6), (97, 7)] I J (f119 r x2 x3 I J) := by
  unfold f119
  exact fr_tl (fr_g118 _ _ _ _ _ _ _ _ _) (fun _ h => h) (fun _ h => h) ag_refl aj_refl
theorem fr_124_3  : ∀ (fu : Nat) (y1 : Int32) (y2 : Int32) (I : (Nat → Nat → Int32)) (J : (Nat → Nat → Int64)), pm_fr [2] [(1, 1)] I J (f124_3 fu y1 y2 I J) := by
  intro fu
  induction fu with
  | zero => intros; intro _ _ _ h; cases h
  | succ fu ih =>
    intro y1 y2 I J
    rw [f124_3]
    exact fr_ite (fr_some ag_refl aj_refl) (fr_ite (fr_ltI (ag_pw ag_refl (List.mem_of_elem_eq_true rfl)) (fun I3 hI3 => fr_ltI (ag_w hI3 (Or.inr (List.mem_of_elem_eq_true rfl))) (fun I4 hI4 => fr_tl (ih _ _ _ _) (fun _ h => h) (fun _ h => h) hI4 aj_refl))) (fr_tl (ih _ _ _ _) (fun _ h => h) (fun _ h => h) ag_refl aj_refl))
theorem fr_124 {x1 : Int32} {I : Nat → Nat → Int32} {J : Nat → Nat → Int64} : pm_fr [2] [(1, 1)] I J (f124 x1 I J) := by
  unfold f124
  exact fr_tl (fr_124_3 _ _ _ _ _) (fun _ h => h) (fun _ h => h) ag_refl aj_refl
theorem fr_127 {I : Nat → Nat → Int32} {J : Nat → Nat → Int64} : pm_fr [] [(1, 7), (1, 8)] I J (f127 I J) := by
  unfold f127
  exact fr_ltI (ag_w ag_refl (Or.inr (List.mem_of_elem_eq_true rfl))) (fun I1 hI1 => fr_ltI (ag_w hI1 (Or.inr (List.mem_of_elem_eq_true rfl))) (fun I2 hI2 => fr_some hI2 aj_refl))
theorem fr_126 {x1 : Int32} {I : Nat → Nat → Int32} {J : Nat → Nat → Int64} : pm_fr [] [(1, 2), (1, 3), (1, 4), (1, 5), (1, 6), (1, 7), (1, 8)] I J (f126 x1 I J) := by
  unfold f126
  exact fr_bd fr_127 (fun _ h => h) (zt_subF rfl) ag_refl aj_refl (fun ov1 I2 J3 hI2 hJ3 => fr_ltI (ag_w hI2 (Or.inr (List.mem_of_elem_eq_true rfl))) (fun I5 hI5 => fr_ltI (ag_w hI5 (Or.inr (List.mem_of_elem_eq_true rfl))) (fun I6 hI6 => fr_bd fr_128 (fun _ h => h) (zt_subF rfl) hI6 hJ3 (fun ov7 I8 J9 hI8 hJ9 => fr_some hI8 hJ9))))
theorem fr_137 {I : Nat → Nat → Int32} {J : Nat → Nat → Int64} : pm_fr [] [(1, 1)] I J (f137 I J) := by
  unfold f137
  exact fr_ltI (ag_w ag_refl (Or.inr (List.mem_of_elem_eq_true rfl))) (fun I1 hI1 => fr_some hI1 aj_refl)
theorem fr_144_2  : ∀ (fu : Nat) (y1 : Int32) (I : (Nat → Nat → Int32)) (J : (Nat → Nat → Int64)), pm_fr [103] [(102, 1), (102, 2), (102, 3), (102, 4)] I J (f144_2 fu y1 I J) := by
  intro fu
  induction fu with
  | zero => intros; intro _ _ _ h; cases h
  | succ fu ih =>
    intro y1 I J
    rw [f144_2]
    exact fr_ite (fr_gd (fr_ltI (ag_w ag_refl (Or.inl (List.mem_of_elem_eq_true rfl))) (fun I7 hI7 => fr_tl (ih _ _ _) (fun _ h => h) (fun _ h => h) hI7 aj_refl))) (fr_ltI (ag_w ag_refl (Or.inr (List.mem_of_elem_eq_true rfl))) (fun I2 hI2 => fr_ltI (ag_w hI2 (Or.inr (List.mem_of_elem_eq_true rfl))) (fun I3 hI3 => fr_ltI (ag_w hI3 (Or.inr (List.mem_of_elem_eq_true rfl))) (fun I4 hI4 => fr_ltI (ag_w hI4 (Or.inr (List.mem_of_elem_eq_true rfl))) (fun I5 hI5 => fr_some hI5 aj_refl)))))
theorem fr_144 {I : Nat → Nat → Int32} {J : Nat → Nat → Int64} : pm_fr [103] [(102, 1), (102, 2), (102, 3), (102, 4)] I J (f144 I J) := by
  unfold f144
  exact fr_tl (fr_144_2 _ _ _ _) (fun _ h => h) (fun _ h => h) ag_refl aj_refl
theorem fr_145 {x1 : Int32} {x2 : Int32} {I : Nat → Nat → Int32} {J : Nat → Nat → Int64} : pm_fr [103] [(102, 1), (102, 2), (102, 3), (102, 4)] I J (f145 x1 x2 I J) := by
  unfold f145
  exact fr_ite (fr_ltI (ag_w ag_refl (Or.inr (List.mem_of_elem_eq_true rfl))) (fun I6 hI6 => fr_ltI (ag_w hI6 (Or.inr (List.mem_of_elem_eq_true rfl))) (fun I7 hI7 => fr_ltI (ag_w hI7 (Or.inr (List.mem_of_elem_eq_true rfl))) (fun I8 hI8 => fr_ltI (ag_w hI8 (Or.inr (List.mem_of_elem_eq_true rfl))) (fun I9 hI9 => fr_ltI (ag_w hI9 (Or.inr (List.mem_of_elem_eq_true rfl))) (fun I10 hI10 => fr_ltI (ag_pw hI10 (List.mem_of_elem_eq_true rfl)) (fun I11 hI11 => fr_ltI (ag_w hI11 (Or.inr (List.mem_of_elem_eq_true rfl))) (fun I12 hI12 => fr_some hI12 aj_refl)))))))) (fr_ltI (ag_w ag_refl (Or.inr (List.mem_of_elem_eq_true rfl))) (fun I2 hI2 => fr_ltI (ag_w hI2 (Or.inr (List.mem_of_elem_eq_true rfl))) (fun I3 hI3 => fr_ltI (ag_pw hI3 (List.mem_of_elem_eq_true rfl)) (fun I4 hI4 => fr_ltI (ag_w hI4 (Or.inr (List.mem_of_elem_eq_true rfl))) (fun I5 hI5 => fr_some hI5 aj_refl)))))
