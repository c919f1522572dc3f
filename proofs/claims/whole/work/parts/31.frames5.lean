/-! FRAMES: which cells a function may change -/
theorem fr_299 {x1 : Int32} {I : Nat → Nat → Int32} {J : Nat → Nat → Int64} : pm_fr [128, 144] [(127, 0), (127, 40), (127, 41), (127, 42)] I J (f299 x1 I J) := by
  unfold f299
  exact fr_ltI (ag_w ag_refl (Or.inr (List.mem_of_elem_eq_true rfl))) (fun I1 hI1 => fr_bd fr_222 (zt_sub rfl) (zt_subF rfl) hI1 aj_refl (fun ov2 I3 J4 hI3 hJ4 => fr_ite (fr_bd fr_253 (zt_sub rfl) (zt_subF rfl) hI3 hJ4 (fun ov7 I8 J9 hI8 hJ9 => fr_bd fr_257 (fun _ h => absurd h (List.not_mem_nil)) (fun _ h => absurd h (List.not_mem_nil)) hI8 hJ9 (fun ov11 I12 J13 hI12 hJ13 => fr_some hI12 hJ13))) (fr_some hI3 hJ4)))
theorem fr_300 {x1 : Int32} {I : Nat → Nat → Int32} {J : Nat → Nat → Int64} : pm_fr [128, 144] [(127, 0), (127, 40), (127, 41), (127, 42)] I J (f300 x1 I J) := by
  unfold f300
  exact fr_ltI (ag_w ag_refl (Or.inr (List.mem_of_elem_eq_true rfl))) (fun I1 hI1 => fr_bd fr_222 (zt_sub rfl) (zt_subF rfl) hI1 aj_refl (fun ov2 I3 J4 hI3 hJ4 => fr_ite (fr_bd fr_253 (zt_sub rfl) (zt_subF rfl) hI3 hJ4 (fun ov7 I8 J9 hI8 hJ9 => fr_bd fr_257 (fun _ h => absurd h (List.not_mem_nil)) (fun _ h => absurd h (List.not_mem_nil)) hI8 hJ9 (fun ov11 I12 J13 hI12 hJ13 => fr_ite (fr_some hI12 hJ13) (fr_gd (fr_bd fr_257 (fun _ h => absurd h (List.not_mem_nil)) (fun _ h => absurd h (List.not_mem_nil)) hI12 hJ13 (fun ov17 I18 J19 hI18 hJ19 => fr_gd (fr_ite (fr_some hI18 hJ19) (fr_some hI18 hJ19)))))))) (fr_some hI3 hJ4)))
theorem fr_301_11  : ∀ (fu : Nat) (y1 : Int32) (I : (Nat → Nat → Int32)) (J : (Nat → Nat → Int64)), pm_fr [139, 140, 144] [(127, 41), (127, 42)] I J (f301_11 fu y1 I J) := by
  intro fu
  induction fu with
  | zero => intros; intro _ _ _ h; cases h
  | succ fu ih =>
    intro y1 I J
    rw [f301_11]
    exact fr_ite (fr_some ag_refl aj_refl) (fr_bd fr_272 (fun _ h => h) (fun _ h => h) ag_refl aj_refl (fun ov2 I3 J4 hI3 hJ4 => fr_ite (fr_some hI3 hJ4) (fr_tl (ih _ _ _) (fun _ h => h) (fun _ h => h) hI3 hJ4)))
theorem fr_301 {I : Nat → Nat → Int32} {J : Nat → Nat → Int64} : pm_fr [139, 140, 144] [(127, 0), (127, 40), (127, 41), (127, 42)] I J (f301 I J) := by
  unfold f301
  exact fr_ltI (ag_w ag_refl (Or.inr (List.mem_of_elem_eq_true rfl))) (fun I1 hI1 => fr_bd fr_253 (zt_sub rfl) (zt_subF rfl) hI1 aj_refl (fun ov2 I3 J4 hI3 hJ4 => fr_tl (fr_301_11 _ _ _ _) (fun _ h => h) (zt_subF rfl) hI3 hJ4))
theorem fr_303_L  : ∀ (fu : Nat) (z1 : Nat) (y1 : Int32) (y2 : Int32) (y3 : Int32) (I : (Nat → Nat → Int32)) (J : (Nat → Nat → Int64)), pm_fr [139, 140, 152, 153] [] I J (f303_L fu z1 y1 y2 y3 I J) := by
  intro fu
  induction fu with
  | zero => intros; intro _ _ _ h; cases h
  | succ fu ih =>
    intro lab
    rcases lab with _ | lab
    · intro y1 y2 _ I J
      rw [f303_L]
      exact fr_ite (fr_bd fr_265 (zt_sub rfl) (fun _ h => h) ag_refl aj_refl (fun ov2 I3 J4 hI3 hJ4 => fr_gd (fr_ltI (ag_w hI3 (Or.inl (List.mem_of_elem_eq_true rfl))) (fun I7 hI7 => fr_gd (fr_ltI (ag_w hI7 (Or.inl (List.mem_of_elem_eq_true rfl))) (fun I9 hI9 => fr_tl (ih _ _ _ _ _ _) (fun _ h => h) (fun _ h => h) hI9 hJ4)))))) (fr_some ag_refl aj_refl)
    · intro y1 y2 y3 I J
      rw [f303_L]
      exact fr_ite (fr_gd (fr_ite (fr_gd (fr_ltI (ag_w ag_refl (Or.inl (List.mem_of_elem_eq_true rfl))) (fun I14 hI14 => fr_tl (ih _ _ _ _ _ _) (fun _ h => h) (fun _ h => h) hI14 aj_refl))) (fr_gd (fr_gd (fr_gd (fr_ite (fr_gd (fr_ltI (ag_w ag_refl (Or.inl (List.mem_of_elem_eq_true rfl))) (fun I22 hI22 => fr_tl (ih _ _ _ _ _ _) (fun _ h => h) (fun _ h => h) hI22 aj_refl))) (fr_gd (fr_ltI (ag_w ag_refl (Or.inl (List.mem_of_elem_eq_true rfl))) (fun I20 hI20 => fr_tl (ih _ _ _ _ _ _) (fun _ h => h) (fun _ h => h) hI20 aj_refl))))))))) (fr_tl (ih _ _ _ _ _ _) (fun _ h => h) (fun _ h => h) ag_refl aj_refl)
theorem fr_303 {x1 : Int32} {I : Nat → Nat → Int32} {J : Nat → Nat → Int64} : pm_fr [139, 140, 144, 152, 153] [(127, 40), (127, 41), (127, 42)] I J (f303 x1 I J) := by
  unfold f303
  exact fr_bd fr_253 (zt_sub rfl) (fun _ h => h) ag_refl aj_refl (fun ov1 I2 J3 hI2 hJ3 => fr_tl (fr_303_L _ _ _ _ _ _ _) (zt_sub rfl) (fun _ h => absurd h (List.not_mem_nil)) hI2 hJ3)
theorem fr_302_50  : ∀ (fu : Nat) (y2 : Int32) (y3 : Int32) (y4 : Int32) (y5 : Int32) (y6 : Int32) (y7 : Int32) (I : (Nat → Nat → Int32)) (J : (Nat → Nat → Int64)), pm_fr [] [] I J (f302_50 fu y2 y3 y4 y5 y6 y7 I J) := by
  intro fu
  induction fu with
  | zero => intros; intro _ _ _ h; cases h
  | succ fu ih =>
    intro y2 y3 y4 y5 y6 y7 I J
    rw [f302_50]
    exact fr_ite (fr_gd (fr_ite (fr_tl (ih _ _ _ _ _ _ _ _) (fun _ h => h) (fun _ h => h) ag_refl aj_refl) (fr_ite (fr_ite (fr_gd (fr_gd (fr_ite (fr_gd (fr_tl (ih _ _ _ _ _ _ _ _) (fun _ h => h) (fun _ h => h) ag_refl aj_refl)) (fr_tl (ih _ _ _ _ _ _ _ _) (fun _ h => h) (fun _ h => h) ag_refl aj_refl)))) (fr_gd (fr_ite (fr_gd (fr_gd (fr_ite (fr_gd (fr_tl (ih _ _ _ _ _ _ _ _) (fun _ h => h) (fun _ h => h) ag_refl aj_refl)) (fr_tl (ih _ _ _ _ _ _ _ _) (fun _ h => h) (fun _ h => h) ag_refl aj_refl)))) (fr_gd (fr_ite (fr_gd (fr_tl (ih _ _ _ _ _ _ _ _) (fun _ h => h) (fun _ h => h) ag_refl aj_refl)) (fr_tl (ih _ _ _ _ _ _ _ _) (fun _ h => h) (fun _ h => h) ag_refl aj_refl)))))) (fr_ite (fr_gd (fr_gd (fr_ite (fr_gd (fr_tl (ih _ _ _ _ _ _ _ _) (fun _ h => h) (fun _ h => h) ag_refl aj_refl)) (fr_tl (ih _ _ _ _ _ _ _ _) (fun _ h => h) (fun _ h => h) ag_refl aj_refl)))) (fr_gd (fr_ite (fr_gd (fr_gd (fr_ite (fr_gd (fr_tl (ih _ _ _ _ _ _ _ _) (fun _ h => h) (fun _ h => h) ag_refl aj_refl)) (fr_tl (ih _ _ _ _ _ _ _ _) (fun _ h => h) (fun _ h => h) ag_refl aj_refl)))) (fr_gd (fr_ite (fr_gd (fr_tl (ih _ _ _ _ _ _ _ _) (fun _ h => h) (fun _ h => h) ag_refl aj_refl)) (fr_tl (ih _ _ _ _ _ _ _ _) (fun _ h => h) (fun _ h => h) ag_refl aj_refl))))))))) (fr_ite (fr_some ag_refl aj_refl) (fr_ite (fr_some ag_refl aj_refl) (fr_ite (fr_some ag_refl aj_refl) (fr_some ag_refl aj_refl))))
theorem fr_302 {x1 : Int32} {x2 : Int32} {I : Nat → Nat → Int32} {J : Nat → Nat → Int64} : pm_fr [128, 139, 140, 144, 152, 153] [(127, 0), (127, 40), (127, 41), (127, 42)] I J (f302 x1 x2 I J) := by
  unfold f302
  exact fr_ltI (ag_w ag_refl (Or.inr (List.mem_of_elem_eq_true rfl))) (fun I1 hI1 => fr_bd fr_277 (zt_sub rfl) (zt_subF rfl) hI1 aj_refl (fun ov2 I3 J4 hI3 hJ4 => fr_ite (fr_bd fr_222 (zt_sub rfl) (zt_subF rfl) hI3 hJ4 (fun ov7 I8 J9 hI8 hJ9 => fr_ite (fr_bd fr_303 (zt_sub rfl) (zt_subF rfl) hI8 hJ9 (fun ov12 I13 J14 hI13 hJ14 => fr_tl (fr_302_50 _ _ _ _ _ _ _ _ _) (fun _ h => absurd h (List.not_mem_nil)) (fun _ h => absurd h (List.not_mem_nil)) hI13 hJ14)) (fr_some hI8 hJ9))) (fr_some hI3 hJ4)))
theorem fr_306_2  : ∀ (fu : Nat) (y1 : Int32) (y2 : Int32) (I : (Nat → Nat → Int32)) (J : (Nat → Nat → Int64)), pm_fr [] [] I J (f306_2 fu y1 y2 I J) := by
  intro fu
  induction fu with
  | zero => intros; intro _ _ _ h; cases h
  | succ fu ih =>
    intro y1 y2 I J
    rw [f306_2]
    exact fr_ite (fr_gd (fr_ite (fr_some ag_refl aj_refl) (fr_tl (ih _ _ _ _) (fun _ h => h) (fun _ h => h) ag_refl aj_refl))) (fr_some ag_refl aj_refl)
theorem fr_306 {x1 : Int32} {I : Nat → Nat → Int32} {J : Nat → Nat → Int64} : pm_fr [] [] I J (f306 x1 I J) := by
  unfold f306
  exact fr_tl (fr_306_2 _ _ _ _ _) (fun _ h => h) (fun _ h => h) ag_refl aj_refl
theorem fr_307_L  : ∀ (fu : Nat) (z1 : Nat) (y1 : Int32) (y2 : Int32) (y3 : Int32) (I : (Nat → Nat → Int32)) (J : (Nat → Nat → Int64)), pm_fr [154] [] I J (f307_L fu z1 y1 y2 y3 I J) := by
  intro fu
  induction fu with
  | zero => intros; intro _ _ _ h; cases h
  | succ fu ih =>
    intro lab
    rcases lab with _ | lab
    · intro y1 y2 _ I J
      rw [f307_L]
      exact fr_ite (fr_gd (fr_ltI (ag_w ag_refl (Or.inl (List.mem_of_elem_eq_true rfl))) (fun I3 hI3 => fr_tl (ih _ _ _ _ _ _) (fun _ h => h) (fun _ h => h) hI3 aj_refl))) (fr_tl (ih _ _ _ _ _ _) (fun _ h => h) (fun _ h => h) ag_refl aj_refl)
    · intro y1 y2 y3 I J
      rw [f307_L]
      exact fr_ite (fr_gd (fr_ite (fr_tl (ih _ _ _ _ _ _) (fun _ h => h) (fun _ h => h) ag_refl aj_refl) (fr_gd (fr_gd (fr_gd (fr_ltI (ag_w ag_refl (Or.inl (List.mem_of_elem_eq_true rfl))) (fun I10 hI10 => fr_gd (fr_ite (fr_gd (fr_tl (ih _ _ _ _ _ _) (fun _ h => h) (fun _ h => h) hI10 aj_refl)) (fr_tl (ih _ _ _ _ _ _) (fun _ h => h) (fun _ h => h) hI10 aj_refl))))))))) (fr_some ag_refl aj_refl)
theorem fr_307 {x1 : Int32} {I : Nat → Nat → Int32} {J : Nat → Nat → Int64} : pm_fr [154] [] I J (f307 x1 I J) := by
  unfold f307
  exact fr_tl (fr_307_L _ _ _ _ _ _ _) (fun _ h => h) (fun _ h => h) ag_refl aj_refl
theorem fr_305_44  : ∀ (fu : Nat) (y2 : Int32) (y3 : Int32) (y4 : Int32) (y5 : Int32) (I : (Nat → Nat → Int32)) (J : (Nat → Nat → Int64)), pm_fr [154] [] I J (f305_44 fu y2 y3 y4 y5 I J) := by
  intro fu
  induction fu with
  | zero => intros; intro _ _ _ h; cases h
  | succ fu ih =>
    intro y2 y3 y4 y5 I J
    rw [f305_44]
    exact fr_ite (fr_bd fr_306 (fun _ h => absurd h (List.not_mem_nil)) (fun _ h => h) ag_refl aj_refl (fun ov3 I4 J5 hI4 hJ5 => fr_ite (fr_tl (ih _ _ _ _ _ _) (fun _ h => h) (fun _ h => h) hI4 hJ5) (fr_bd fr_307 (fun _ h => h) (fun _ h => h) hI4 hJ5 (fun ov8 I9 J10 hI9 hJ10 => fr_ite (fr_tl (ih _ _ _ _ _ _) (fun _ h => h) (fun _ h => h) hI9 hJ10) (fr_ite (fr_tl (ih _ _ _ _ _ _) (fun _ h => h) (fun _ h => h) hI9 hJ10) (fr_tl (ih _ _ _ _ _ _) (fun _ h => h) (fun _ h => h) hI9 hJ10)))))) (fr_ite (fr_some ag_refl aj_refl) (fr_some ag_refl aj_refl))
theorem fr_305 {x1 : Int32} {x2 : Int32} {I : Nat → Nat → Int32} {J : Nat → Nat → Int64} : pm_fr [128, 139, 140, 144, 152, 153, 154] [(127, 0), (127, 40), (127, 41), (127, 42)] I J (f305 x1 x2 I J) := by
  unfold f305
  exact fr_ltI (ag_w ag_refl (Or.inr (List.mem_of_elem_eq_true rfl))) (fun I1 hI1 => fr_bd fr_277 (zt_sub rfl) (zt_subF rfl) hI1 aj_refl (fun ov2 I3 J4 hI3 hJ4 => fr_ite (fr_bd fr_222 (zt_sub rfl) (zt_subF rfl) hI3 hJ4 (fun ov7 I8 J9 hI8 hJ9 => fr_ite (fr_bd fr_303 (zt_sub rfl) (zt_subF rfl) hI8 hJ9 (fun ov12 I13 J14 hI13 hJ14 => fr_tl (fr_305_44 _ _ _ _ _ _ _) (zt_sub rfl) (fun _ h => absurd h (List.not_mem_nil)) hI13 hJ14)) (fr_some hI8 hJ9))) (fr_some hI3 hJ4)))
theorem fr_310_5  : ∀ (fu : Nat) (y0 : Int64) (y2 : Int32) (y3 : Int64) (y5 : Int32) (I : (Nat → Nat → Int32)) (J : (Nat → Nat → Int64)), pm_fr [] [] I J (f310_5 fu y0 y2 y3 y5 I J) := by
  intro fu
  induction fu with
  | zero => intros; intro _ _ _ h; cases h
  | succ fu ih =>
    intro y0 y2 y3 y5 I J
    rw [f310_5]
    exact fr_ite (fr_tl (ih _ _ _ _ _ _) (fun _ h => h) (fun _ h => h) ag_refl aj_refl) (fr_some ag_refl aj_refl)
theorem fr_310 {x0 : Int64} {x2 : Int32} {I : Nat → Nat → Int32} {J : Nat → Nat → Int64} : pm_fr [] [] I J (f310 x0 x2 I J) := by
  unfold f310
  exact fr_tl (fr_310_5 _ _ _ _ _ _ _) (fun _ h => h) (fun _ h => h) ag_refl aj_refl
theorem fr_309_L  : ∀ (fu : Nat) (z1 : Nat) (y0 : Int32) (y1 : Int32) (y2 : Int64) (y4 : Int32) (y5 : Int32) (y6 : Int32) (I : (Nat → Nat → Int32)) (J : (Nat → Nat → Int64)), pm_fr [] [] I J (f309_L fu z1 y0 y1 y2 y4 y5 y6 I J) := by
  intro fu
  induction fu with
  | zero => intros; intro _ _ _ h; cases h
  | succ fu ih =>
    intro lab
    rcases lab with _ | lab
    · intro y0 y1 y2 y4 _ _ I J
      rw [f309_L]
      exact fr_ite (fr_tl (ih _ _ _ _ _ _ _ _ _) (fun _ h => h) (fun _ h => h) ag_refl aj_refl) (fr_some ag_refl aj_refl)
    · intro y0 y1 y2 y4 y5 y6 I J
      rw [f309_L]
      exact fr_ite (fr_tl (ih _ _ _ _ _ _ _ _ _) (fun _ h => h) (fun _ h => h) ag_refl aj_refl) (fr_ite (fr_bd fr_310 (fun _ h => h) (fun _ h => h) ag_refl aj_refl (fun ov4 I5 J6 hI5 hJ6 => fr_bd fr_310 (fun _ h => h) (fun _ h => h) hI5 hJ6 (fun ov8 I9 J10 hI9 hJ10 => fr_tl (ih _ _ _ _ _ _ _ _ _) (fun _ h => h) (fun _ h => h) hI9 hJ10))) (fr_tl (ih _ _ _ _ _ _ _ _ _) (fun _ h => h) (fun _ h => h) ag_refl aj_refl))
theorem fr_309 {x0 : Int32} {x1 : Int32} {I : Nat → Nat → Int32} {J : Nat → Nat → Int64} : pm_fr [] [] I J (f309 x0 x1 I J) := by
  unfold f309
  exact fr_tl (fr_309_L _ _ _ _ _ _ _ _ _ _) (fun _ h => h) (fun _ h => h) ag_refl aj_refl
theorem fr_311_6  : ∀ (fu : Nat) (y0 : Int64) (y2 : Int64) (y4 : Int32) (y5 : Int64) (y7 : Int64) (I : (Nat → Nat → Int32)) (J : (Nat → Nat → Int64)), pm_fr [] [] I J (f311_6 fu y0 y2 y4 y5 y7 I J) := by
  intro fu
  induction fu with
  | zero => intros; intro _ _ _ h; cases h
  | succ fu ih =>
    intro y0 y2 y4 y5 y7 I J
    rw [f311_6]
    exact fr_ite (fr_ite (fr_gd (fr_some ag_refl aj_refl)) (fr_gd (fr_some ag_refl aj_refl))) (fr_gd (fr_tl (ih _ _ _ _ _ _ _) (fun _ h => h) (fun _ h => h) ag_refl aj_refl))
theorem fr_311 {x0 : Int64} {x2 : Int64} {x4 : Int32} {I : Nat → Nat → Int32} {J : Nat → Nat → Int64} : pm_fr [] [] I J (f311 x0 x2 x4 I J) := by
  unfold f311
  exact fr_tl (fr_311_6 _ _ _ _ _ _ _ _) (fun _ h => h) (fun _ h => h) ag_refl aj_refl
theorem fr_308 {x1 : Int32} {x2 : Int32} {x3 : Int32} {I : Nat → Nat → Int32} {J : Nat → Nat → Int64} : pm_fr [128] [(127, 0)] I J (f308 x1 x2 x3 I J) := by
  unfold f308
  exact fr_ltI (ag_w ag_refl (Or.inr (List.mem_of_elem_eq_true rfl))) (fun I1 hI1 => fr_ite (fr_ite (fr_ite (fr_ite (fr_bd fr_222 (fun _ h => h) (fun _ h => h) hI1 aj_refl (fun ov74 I75 J76 hI75 hJ76 => fr_ite (fr_bd fr_309 (fun _ h => absurd h (List.not_mem_nil)) (fun _ h => absurd h (List.not_mem_nil)) hI75 hJ76 (fun ov79 I80 J81 hI80 hJ81 => fr_bd fr_310 (fun _ h => absurd h (List.not_mem_nil)) (fun _ h => absurd h (List.not_mem_nil)) hI80 hJ81 (fun ov83 I84 J85 hI84 hJ85 => fr_bd fr_311 (fun _ h => absurd h (List.not_mem_nil)) (fun _ h => absurd h (List.not_mem_nil)) hI84 hJ85 (fun ov87 I88 J89 hI88 hJ89 => fr_some hI88 hJ89)))) (fr_some hI75 hJ76))) (fr_bd fr_222 (fun _ h => h) (fun _ h => h) hI1 aj_refl (fun ov57 I58 J59 hI58 hJ59 => fr_ite (fr_bd fr_309 (fun _ h => absurd h (List.not_mem_nil)) (fun _ h => absurd h (List.not_mem_nil)) hI58 hJ59 (fun ov62 I63 J64 hI63 hJ64 => fr_bd fr_310 (fun _ h => absurd h (List.not_mem_nil)) (fun _ h => absurd h (List.not_mem_nil)) hI63 hJ64 (fun ov66 I67 J68 hI67 hJ68 => fr_bd fr_311 (fun _ h => absurd h (List.not_mem_nil)) (fun _ h => absurd h (List.not_mem_nil)) hI67 hJ68 (fun ov70 I71 J72 hI71 hJ72 => fr_some hI71 hJ72)))) (fr_some hI58 hJ59)))) (fr_bd fr_222 (fun _ h => h) (fun _ h => h) hI1 aj_refl (fun ov39 I40 J41 hI40 hJ41 => fr_ite (fr_bd fr_309 (fun _ h => absurd h (List.not_mem_nil)) (fun _ h => absurd h (List.not_mem_nil)) hI40 hJ41 (fun ov44 I45 J46 hI45 hJ46 => fr_bd fr_310 (fun _ h => absurd h (List.not_mem_nil)) (fun _ h => absurd h (List.not_mem_nil)) hI45 hJ46 (fun ov48 I49 J50 hI49 hJ50 => fr_bd fr_311 (fun _ h => absurd h (List.not_mem_nil)) (fun _ h => absurd h (List.not_mem_nil)) hI49 hJ50 (fun ov52 I53 J54 hI53 hJ54 => fr_some hI53 hJ54)))) (fr_some hI40 hJ41)))) (fr_bd fr_222 (fun _ h => h) (fun _ h => h) hI1 aj_refl (fun ov21 I22 J23 hI22 hJ23 => fr_ite (fr_bd fr_309 (fun _ h => absurd h (List.not_mem_nil)) (fun _ h => absurd h (List.not_mem_nil)) hI22 hJ23 (fun ov26 I27 J28 hI27 hJ28 => fr_bd fr_310 (fun _ h => absurd h (List.not_mem_nil)) (fun _ h => absurd h (List.not_mem_nil)) hI27 hJ28 (fun ov30 I31 J32 hI31 hJ32 => fr_bd fr_311 (fun _ h => absurd h (List.not_mem_nil)) (fun _ h => absurd h (List.not_mem_nil)) hI31 hJ32 (fun ov34 I35 J36 hI35 hJ36 => fr_some hI35 hJ36)))) (fr_some hI22 hJ23)))) (fr_bd fr_222 (fun _ h => h) (fun _ h => h) hI1 aj_refl (fun ov3 I4 J5 hI4 hJ5 => fr_ite (fr_bd fr_309 (fun _ h => absurd h (List.not_mem_nil)) (fun _ h => absurd h (List.not_mem_nil)) hI4 hJ5 (fun ov8 I9 J10 hI9 hJ10 => fr_bd fr_310 (fun _ h => absurd h (List.not_mem_nil)) (fun _ h => absurd h (List.not_mem_nil)) hI9 hJ10 (fun ov12 I13 J14 hI13 hJ14 => fr_bd fr_311 (fun _ h => absurd h (List.not_mem_nil)) (fun _ h => absurd h (List.not_mem_nil)) hI13 hJ14 (fun ov16 I17 J18 hI17 hJ18 => fr_some hI17 hJ18)))) (fr_some hI4 hJ5))))
theorem fr_312_43  : ∀ (fu : Nat) (y1 : Int32) (y2 : Int32) (y3 : Int32) (I : (Nat → Nat → Int32)) (J : (Nat → Nat → Int64)), pm_fr [] [] I J (f312_43 fu y1 y2 y3 I J) := by
  intro fu
  induction fu with
  | zero => intros; intro _ _ _ h; cases h
  | succ fu ih =>
    intro y1 y2 y3 I J
    rw [f312_43]
    exact fr_ite (fr_some ag_refl aj_refl) (fr_bd fr_309 (fun _ h => h) (fun _ h => h) ag_refl aj_refl (fun ov2 I3 J4 hI3 hJ4 => fr_bd fr_310 (fun _ h => h) (fun _ h => h) hI3 hJ4 (fun ov6 I7 J8 hI7 hJ8 => fr_ite (fr_tl (ih _ _ _ _ _) (fun _ h => h) (fun _ h => h) hI7 hJ8) (fr_some hI7 hJ8))))
theorem fr_312 {x1 : Int32} {x2 : Int32} {I : Nat → Nat → Int32} {J : Nat → Nat → Int64} : pm_fr [128] [(127, 0)] I J (f312 x1 x2 I J) := by
  unfold f312
  exact fr_ltI (ag_w ag_refl (Or.inr (List.mem_of_elem_eq_true rfl))) (fun I1 hI1 => fr_ite (fr_ite (fr_bd fr_222 (fun _ h => h) (fun _ h => h) hI1 aj_refl (fun ov14 I15 J16 hI15 hJ16 => fr_ite (fr_tl (fr_312_43 _ _ _ _ _ _) (fun _ h => absurd h (List.not_mem_nil)) (fun _ h => absurd h (List.not_mem_nil)) hI15 hJ16) (fr_some hI15 hJ16))) (fr_bd fr_222 (fun _ h => h) (fun _ h => h) hI1 aj_refl (fun ov9 I10 J11 hI10 hJ11 => fr_ite (fr_tl (fr_312_43 _ _ _ _ _ _) (fun _ h => absurd h (List.not_mem_nil)) (fun _ h => absurd h (List.not_mem_nil)) hI10 hJ11) (fr_some hI10 hJ11)))) (fr_bd fr_222 (fun _ h => h) (fun _ h => h) hI1 aj_refl (fun ov3 I4 J5 hI4 hJ5 => fr_ite (fr_tl (fr_312_43 _ _ _ _ _ _) (fun _ h => absurd h (List.not_mem_nil)) (fun _ h => absurd h (List.not_mem_nil)) hI4 hJ5) (fr_some hI4 hJ5))))
theorem fr_313_60  : ∀ (fu : Nat) (y2 : Int32) (y3 : Int32) (y4 : Int64) (y6 : Int32) (I : (Nat → Nat → Int32)) (J : (Nat → Nat → Int64)), pm_fr [] [] I J (f313_60 fu y2 y3 y4 y6 I J) := by
  intro fu
  induction fu with
  | zero => intros; intro _ _ _ h; cases h
  | succ fu ih =>
    intro y2 y3 y4 y6 I J
    rw [f313_60]
    exact fr_ite (fr_some ag_refl aj_refl) (fr_ite (fr_ite (fr_tl (ih _ _ _ _ _ _) (fun _ h => h) (fun _ h => h) ag_refl aj_refl) (fr_some ag_refl aj_refl)) (fr_some ag_refl aj_refl))
theorem fr_313 {x1 : Int32} {x2 : Int32} {x3 : Int32} {I : Nat → Nat → Int32} {J : Nat → Nat → Int64} : pm_fr [128] [(127, 0)] I J (f313 x1 x2 x3 I J) := by
  unfold f313
  exact fr_ltI (ag_w ag_refl (Or.inr (List.mem_of_elem_eq_true rfl))) (fun I1 hI1 => fr_ite (fr_ite (fr_ite (fr_bd fr_222 (fun _ h => h) (fun _ h => h) hI1 aj_refl (fun ov20 I21 J22 hI21 hJ22 => fr_ite (fr_tl (fr_313_60 _ _ _ _ _ _ _) (fun _ h => absurd h (List.not_mem_nil)) (fun _ h => absurd h (List.not_mem_nil)) hI21 hJ22) (fr_some hI21 hJ22))) (fr_bd fr_222 (fun _ h => h) (fun _ h => h) hI1 aj_refl (fun ov15 I16 J17 hI16 hJ17 => fr_ite (fr_tl (fr_313_60 _ _ _ _ _ _ _) (fun _ h => absurd h (List.not_mem_nil)) (fun _ h => absurd h (List.not_mem_nil)) hI16 hJ17) (fr_some hI16 hJ17)))) (fr_bd fr_222 (fun _ h => h) (fun _ h => h) hI1 aj_refl (fun ov9 I10 J11 hI10 hJ11 => fr_ite (fr_tl (fr_313_60 _ _ _ _ _ _ _) (fun _ h => absurd h (List.not_mem_nil)) (fun _ h => absurd h (List.not_mem_nil)) hI10 hJ11) (fr_some hI10 hJ11)))) (fr_bd fr_222 (fun _ h => h) (fun _ h => h) hI1 aj_refl (fun ov3 I4 J5 hI4 hJ5 => fr_ite (fr_tl (fr_313_60 _ _ _ _ _ _ _) (fun _ h => absurd h (List.not_mem_nil)) (fun _ h => absurd h (List.not_mem_nil)) hI4 hJ5) (fr_some hI4 hJ5))))
theorem fr_314_L  : ∀ (fu : Nat) (z1 : Nat) (y1 : Int32) (y2 : Int32) (y3 : Int32) (y4 : Int32) (y5 : Int32) (I : (Nat → Nat → Int32)) (J : (Nat → Nat → Int64)), pm_fr [155] [] I J (f314_L fu z1 y1 y2 y3 y4 y5 I J) := by
  intro fu
  induction fu with
  | zero => intros; intro _ _ _ h; cases h
  | succ fu ih =>
    intro lab
    rcases lab with _ | _ | lab
    · intro y1 y2 y3 _ _ I J
      rw [f314_L]
      exact fr_ite (fr_gd (fr_ltI (ag_w ag_refl (Or.inl (List.mem_of_elem_eq_true rfl))) (fun I3 hI3 => fr_tl (ih _ _ _ _ _ _ _ _) (fun _ h => h) (fun _ h => h) hI3 aj_refl))) (fr_tl (ih _ _ _ _ _ _ _ _) (fun _ h => h) (fun _ h => h) ag_refl aj_refl)
    · intro y1 y2 y3 _ _ I J
      rw [f314_L]
      exact fr_ite (fr_tl (ih _ _ _ _ _ _ _ _) (fun _ h => h) (fun _ h => h) ag_refl aj_refl) (fr_gd (fr_some ag_refl aj_refl))
    · intro y1 y2 y3 y4 y5 I J
      rw [f314_L]
      exact fr_ite (fr_bd fr_259 (fun _ h => absurd h (List.not_mem_nil)) (fun _ h => h) ag_refl aj_refl (fun ov11 I12 J13 hI12 hJ13 => fr_ite (fr_ite (fr_tl (ih _ _ _ _ _ _ _ _) (fun _ h => h) (fun _ h => h) hI12 hJ13) (fr_bd fr_259 (fun _ h => absurd h (List.not_mem_nil)) (fun _ h => h) hI12 hJ13 (fun ov17 I18 J19 hI18 hJ19 => fr_gd (fr_bd fr_259 (fun _ h => absurd h (List.not_mem_nil)) (fun _ h => h) hI18 hJ19 (fun ov22 I23 J24 hI23 hJ24 => fr_gd (fr_ite (fr_tl (ih _ _ _ _ _ _ _ _) (fun _ h => h) (fun _ h => h) hI23 hJ24) (fr_tl (ih _ _ _ _ _ _ _ _) (fun _ h => h) (fun _ h => h) hI23 hJ24))))))) (fr_tl (ih _ _ _ _ _ _ _ _) (fun _ h => h) (fun _ h => h) hI12 hJ13))) (fr_ite (fr_tl (ih _ _ _ _ _ _ _ _) (fun _ h => h) (fun _ h => h) ag_refl aj_refl) (fr_gd (fr_gd (fr_ltI (ag_w ag_refl (Or.inl (List.mem_of_elem_eq_true rfl))) (fun I10 hI10 => fr_tl (ih _ _ _ _ _ _ _ _) (fun _ h => h) (fun _ h => h) hI10 aj_refl)))))
theorem fr_314 {x1 : Int32} {x2 : Int32} {I : Nat → Nat → Int32} {J : Nat → Nat → Int64} : pm_fr [128, 144, 155] [(127, 0), (127, 40), (127, 41), (127, 42)] I J (f314 x1 x2 I J) := by
  unfold f314
  exact fr_ltI (ag_w ag_refl (Or.inr (List.mem_of_elem_eq_true rfl))) (fun I1 hI1 => fr_bd fr_279 (zt_sub rfl) (zt_subF rfl) hI1 aj_refl (fun ov2 I3 J4 hI3 hJ4 => fr_ite (fr_bd fr_222 (zt_sub rfl) (zt_subF rfl) hI3 hJ4 (fun ov7 I8 J9 hI8 hJ9 => fr_ite (fr_bd fr_253 (zt_sub rfl) (zt_subF rfl) hI8 hJ9 (fun ov12 I13 J14 hI13 hJ14 => fr_tl (fr_314_L _ _ _ _ _ _ _ _ _) (zt_sub rfl) (fun _ h => absurd h (List.not_mem_nil)) hI13 hJ14)) (fr_some hI8 hJ9))) (fr_some hI3 hJ4)))
theorem fr_316_3  : ∀ (fu : Nat) (y0 : Int32) (y1 : Int32) (y2 : Int32) (y3 : Int32) (y4 : Int32) (y5 : Int32) (I : (Nat → Nat → Int32)) (J : (Nat → Nat → Int64)), pm_fr [] [] I J (f316_3 fu y0 y1 y2 y3 y4 y5 I J) := by
  intro fu
  induction fu with
  | zero => intros; intro _ _ _ h; cases h
  | succ fu ih =>
    intro y0 y1 y2 y3 y4 y5 I J
    rw [f316_3]
    exact fr_ite (fr_some ag_refl aj_refl) (fr_ite (fr_some ag_refl aj_refl) (fr_ite (fr_some ag_refl aj_refl) (fr_tl (ih _ _ _ _ _ _ _ _) (fun _ h => h) (fun _ h => h) ag_refl aj_refl)))
theorem fr_316 {x0 : Int32} {x1 : Int32} {x2 : Int32} {x3 : Int32} {x4 : Int32} {I : Nat → Nat → Int32} {J : Nat → Nat → Int64} : pm_fr [] [] I J (f316 x0 x1 x2 x3 x4 I J) := by
  unfold f316
  exact fr_tl (fr_316_3 _ _ _ _ _ _ _ _ _) (fun _ h => h) (fun _ h => h) ag_refl aj_refl
theorem fr_315_70  : ∀ (fu : Nat) (y1 : Int32) (y2 : Int32) (y3 : Int32) (y4 : Int32) (y5 : Int32) (y6 : Int32) (y7 : Int32) (I : (Nat → Nat → Int32)) (J : (Nat → Nat → Int64)), pm_fr [] [] I J (f315_70 fu y1 y2 y3 y4 y5 y6 y7 I J) := by
  intro fu
  induction fu with
  | zero => intros; intro _ _ _ h; cases h
  | succ fu ih =>
    intro y1 y2 y3 y4 y5 y6 y7 I J
    rw [f315_70]
    exact fr_ite (fr_gd (fr_gd (fr_bd fr_316 (fun _ h => h) (fun _ h => h) ag_refl aj_refl (fun ov7 I8 J9 hI8 hJ9 => fr_ite (fr_ite (fr_gd (fr_gd (fr_tl (ih _ _ _ _ _ _ _ _ _) (fun _ h => h) (fun _ h => h) hI8 hJ9))) (fr_tl (ih _ _ _ _ _ _ _ _ _) (fun _ h => h) (fun _ h => h) hI8 hJ9)) (fr_tl (ih _ _ _ _ _ _ _ _ _) (fun _ h => h) (fun _ h => h) hI8 hJ9))))) (fr_ite (fr_some ag_refl aj_refl) (fr_ite (fr_some ag_refl aj_refl) (fr_ite (fr_some ag_refl aj_refl) (fr_some ag_refl aj_refl))))
theorem fr_315 {x1 : Int32} {x2 : Int32} {x3 : Int32} {x4 : Int32} {I : Nat → Nat → Int32} {J : Nat → Nat → Int64} : pm_fr [128] [(127, 0)] I J (f315 x1 x2 x3 x4 I J) := by
  unfold f315
  exact fr_ltI (ag_w ag_refl (Or.inr (List.mem_of_elem_eq_true rfl))) (fun I1 hI1 => fr_ite (fr_ite (fr_ite (fr_ite (fr_bd fr_222 (fun _ h => h) (fun _ h => h) hI1 aj_refl (fun ov26 I27 J28 hI27 hJ28 => fr_ite (fr_tl (fr_315_70 _ _ _ _ _ _ _ _ _ _) (fun _ h => absurd h (List.not_mem_nil)) (fun _ h => absurd h (List.not_mem_nil)) hI27 hJ28) (fr_some hI27 hJ28))) (fr_bd fr_222 (fun _ h => h) (fun _ h => h) hI1 aj_refl (fun ov21 I22 J23 hI22 hJ23 => fr_ite (fr_tl (fr_315_70 _ _ _ _ _ _ _ _ _ _) (fun _ h => absurd h (List.not_mem_nil)) (fun _ h => absurd h (List.not_mem_nil)) hI22 hJ23) (fr_some hI22 hJ23)))) (fr_bd fr_222 (fun _ h => h) (fun _ h => h) hI1 aj_refl (fun ov15 I16 J17 hI16 hJ17 => fr_ite (fr_tl (fr_315_70 _ _ _ _ _ _ _ _ _ _) (fun _ h => absurd h (List.not_mem_nil)) (fun _ h => absurd h (List.not_mem_nil)) hI16 hJ17) (fr_some hI16 hJ17)))) (fr_bd fr_222 (fun _ h => h) (fun _ h => h) hI1 aj_refl (fun ov9 I10 J11 hI10 hJ11 => fr_ite (fr_tl (fr_315_70 _ _ _ _ _ _ _ _ _ _) (fun _ h => absurd h (List.not_mem_nil)) (fun _ h => absurd h (List.not_mem_nil)) hI10 hJ11) (fr_some hI10 hJ11)))) (fr_bd fr_222 (fun _ h => h) (fun _ h => h) hI1 aj_refl (fun ov3 I4 J5 hI4 hJ5 => fr_ite (fr_tl (fr_315_70 _ _ _ _ _ _ _ _ _ _) (fun _ h => absurd h (List.not_mem_nil)) (fun _ h => absurd h (List.not_mem_nil)) hI4 hJ5) (fr_some hI4 hJ5))))
theorem fr_318 {x1 : Int32} {x2 : Int32} {x3 : Int32} {I : Nat → Nat → Int32} {J : Nat → Nat → Int64} : pm_fr [128] [(127, 0)] I J (f318 x1 x2 x3 I J) := by
  unfold f318
  exact fr_ltI (ag_w ag_refl (Or.inr (List.mem_of_elem_eq_true rfl))) (fun I1 hI1 => fr_ite (fr_ite (fr_ite (fr_bd fr_222 (fun _ h => h) (fun _ h => h) hI1 aj_refl (fun ov20 I21 J22 hI21 hJ22 => fr_ite (fr_some hI21 hJ22) (fr_some hI21 hJ22))) (fr_bd fr_222 (fun _ h => h) (fun _ h => h) hI1 aj_refl (fun ov15 I16 J17 hI16 hJ17 => fr_ite (fr_some hI16 hJ17) (fr_some hI16 hJ17)))) (fr_bd fr_222 (fun _ h => h) (fun _ h => h) hI1 aj_refl (fun ov9 I10 J11 hI10 hJ11 => fr_ite (fr_some hI10 hJ11) (fr_some hI10 hJ11)))) (fr_bd fr_222 (fun _ h => h) (fun _ h => h) hI1 aj_refl (fun ov3 I4 J5 hI4 hJ5 => fr_ite (fr_some hI4 hJ5) (fr_some hI4 hJ5))))
theorem fr_322 {I : Nat → Nat → Int32} {J : Nat → Nat → Int64} : pm_fr [] [(127, 55)] I J (f322 I J) := by
  unfold f322
  exact fr_ltI (ag_w ag_refl (Or.inr (List.mem_of_elem_eq_true rfl))) (fun I1 hI1 => fr_some hI1 aj_refl)
theorem fr_321_17  : ∀ (fu : Nat) (y2 : Int32) (y3 : Int32) (y4 : Int32) (y5 : Int32) (I : (Nat → Nat → Int32)) (J : (Nat → Nat → Int64)), pm_fr [139, 140, 144] [(127, 41), (127, 42), (127, 55), (127, 56)] I J (f321_17 fu y2 y3 y4 y5 I J) := by
  intro fu
  induction fu with
  | zero => intros; intro _ _ _ h; cases h
  | succ fu ih =>
    intro y2 y3 y4 y5 I J
    rw [f321_17]
    exact fr_ite (fr_bd fr_322 (fun _ h => absurd h (List.not_mem_nil)) (zt_subF rfl) ag_refl aj_refl (fun ov2 I3 J4 hI3 hJ4 => fr_ite (fr_ltI (ag_w hI3 (Or.inr (List.mem_of_elem_eq_true rfl))) (fun I11 hI11 => fr_gd (fr_ite (fr_gd (fr_gd (fr_ltI (ag_w hI11 (Or.inl (List.mem_of_elem_eq_true rfl))) (fun I22 hI22 => fr_bd fr_272 (fun _ h => h) (zt_subF rfl) hI22 hJ4 (fun ov23 I24 J25 hI24 hJ25 => fr_tl (ih _ _ _ _ _ _) (fun _ h => h) (fun _ h => h) hI24 hJ25))))) (fr_gd (fr_ltI (ag_w hI11 (Or.inl (List.mem_of_elem_eq_true rfl))) (fun I15 hI15 => fr_bd fr_272 (fun _ h => h) (zt_subF rfl) hI15 hJ4 (fun ov16 I17 J18 hI17 hJ18 => fr_tl (ih _ _ _ _ _ _) (fun _ h => h) (fun _ h => h) hI17 hJ18))))))) (fr_bd fr_272 (fun _ h => h) (zt_subF rfl) hI3 hJ4 (fun ov7 I8 J9 hI8 hJ9 => fr_tl (ih _ _ _ _ _ _) (fun _ h => h) (fun _ h => h) hI8 hJ9)))) (fr_some ag_refl aj_refl)
theorem fr_321 {x1 : Int32} {x2 : Int32} {x3 : Int32} {x4 : Int32} {I : Nat → Nat → Int32} {J : Nat → Nat → Int64} : pm_fr [139, 140, 144] [(127, 40), (127, 41), (127, 42), (127, 55), (127, 56)] I J (f321 x1 x2 x3 x4 I J) := by
  unfold f321
  exact fr_bd fr_253 (zt_sub rfl) (zt_subF rfl) ag_refl aj_refl (fun ov1 I2 J3 hI2 hJ3 => fr_ltI (ag_w hI2 (Or.inr (List.mem_of_elem_eq_true rfl))) (fun I5 hI5 => fr_ltI (ag_w hI5 (Or.inr (List.mem_of_elem_eq_true rfl))) (fun I6 hI6 => fr_tl (fr_321_17 _ _ _ _ _ _ _) (fun _ h => h) (zt_subF rfl) hI6 hJ3)))
theorem fr_319 {x1 : Int32} {x2 : Int32} {x3 : Int32} {x4 : Int32} {x5 : Int32} {I : Nat → Nat → Int32} {J : Nat → Nat → Int64} : pm_fr [128, 139, 140, 144] [(127, 0), (127, 40), (127, 41), (127, 42), (127, 55), (127, 56)] I J (f319 x1 x2 x3 x4 x5 I J) := by
  unfold f319
  exact fr_ltI (ag_w ag_refl (Or.inr (List.mem_of_elem_eq_true rfl))) (fun I1 hI1 => fr_ite (fr_ite (fr_bd fr_222 (zt_sub rfl) (zt_subF rfl) hI1 aj_refl (fun ov38 I39 J40 hI39 hJ40 => fr_ite (fr_bd fr_321 (zt_sub rfl) (zt_subF rfl) hI39 hJ40 (fun ov43 I44 J45 hI44 hJ45 => fr_ite (fr_some hI44 hJ45) (fr_ite (fr_gd (fr_some hI44 hJ45)) (fr_ite (fr_some hI44 hJ45) (fr_bd fr_257 (fun _ h => absurd h (List.not_mem_nil)) (fun _ h => absurd h (List.not_mem_nil)) hI44 hJ45 (fun ov50 I51 J52 hI51 hJ52 => fr_some hI51 hJ52)))))) (fr_some hI39 hJ40))) (fr_bd fr_222 (zt_sub rfl) (zt_subF rfl) hI1 aj_refl (fun ov21 I22 J23 hI22 hJ23 => fr_ite (fr_bd fr_321 (zt_sub rfl) (zt_subF rfl) hI22 hJ23 (fun ov26 I27 J28 hI27 hJ28 => fr_ite (fr_some hI27 hJ28) (fr_ite (fr_gd (fr_some hI27 hJ28)) (fr_ite (fr_some hI27 hJ28) (fr_bd fr_257 (fun _ h => absurd h (List.not_mem_nil)) (fun _ h => absurd h (List.not_mem_nil)) hI27 hJ28 (fun ov33 I34 J35 hI34 hJ35 => fr_some hI34 hJ35)))))) (fr_some hI22 hJ23)))) (fr_bd fr_222 (zt_sub rfl) (zt_subF rfl) hI1 aj_refl (fun ov3 I4 J5 hI4 hJ5 => fr_ite (fr_bd fr_321 (zt_sub rfl) (zt_subF rfl) hI4 hJ5 (fun ov8 I9 J10 hI9 hJ10 => fr_ite (fr_some hI9 hJ10) (fr_ite (fr_gd (fr_some hI9 hJ10)) (fr_ite (fr_some hI9 hJ10) (fr_bd fr_257 (fun _ h => absurd h (List.not_mem_nil)) (fun _ h => absurd h (List.not_mem_nil)) hI9 hJ10 (fun ov15 I16 J17 hI16 hJ17 => fr_some hI16 hJ17)))))) (fr_some hI4 hJ5))))
theorem fr_323_64  : ∀ (fu : Nat) (y1 : Int32) (y2 : Int32) (y3 : Int32) (y4 : Int32) (y5 : Int32) (y6 : Int32) (y7 : Int32) (y8 : Int32) (y9 : Int32) (y10 : Int32) (I : (Nat → Nat → Int32)) (J : (Nat → Nat → Int64)), pm_fr [139, 140, 144] [(127, 40), (127, 41), (127, 42), (127, 55), (127, 56)] I J (f323_64 fu y1 y2 y3 y4 y5 y6 y7 y8 y9 y10 I J) := by
  intro fu
  induction fu with
  | zero => intros; intro _ _ _ h; cases h
  | succ fu ih =>
    intro y1 y2 y3 y4 y5 y6 y7 y8 y9 y10 I J
    rw [f323_64]
    exact fr_ite (fr_bd fr_321 (fun _ h => h) (fun _ h => h) ag_refl aj_refl (fun ov4 I5 J6 hI5 hJ6 => fr_ite (fr_ite (fr_ite (fr_tl (ih _ _ _ _ _ _ _ _ _ _ _ _) (fun _ h => h) (fun _ h => h) hI5 hJ6) (fr_tl (ih _ _ _ _ _ _ _ _ _ _ _ _) (fun _ h => h) (fun _ h => h) hI5 hJ6)) (fr_ite (fr_tl (ih _ _ _ _ _ _ _ _ _ _ _ _) (fun _ h => h) (fun _ h => h) hI5 hJ6) (fr_tl (ih _ _ _ _ _ _ _ _ _ _ _ _) (fun _ h => h) (fun _ h => h) hI5 hJ6))) (fr_ite (fr_ite (fr_ite (fr_tl (ih _ _ _ _ _ _ _ _ _ _ _ _) (fun _ h => h) (fun _ h => h) hI5 hJ6) (fr_tl (ih _ _ _ _ _ _ _ _ _ _ _ _) (fun _ h => h) (fun _ h => h) hI5 hJ6)) (fr_ite (fr_tl (ih _ _ _ _ _ _ _ _ _ _ _ _) (fun _ h => h) (fun _ h => h) hI5 hJ6) (fr_tl (ih _ _ _ _ _ _ _ _ _ _ _ _) (fun _ h => h) (fun _ h => h) hI5 hJ6))) (fr_ite (fr_ite (fr_tl (ih _ _ _ _ _ _ _ _ _ _ _ _) (fun _ h => h) (fun _ h => h) hI5 hJ6) (fr_tl (ih _ _ _ _ _ _ _ _ _ _ _ _) (fun _ h => h) (fun _ h => h) hI5 hJ6)) (fr_ite (fr_tl (ih _ _ _ _ _ _ _ _ _ _ _ _) (fun _ h => h) (fun _ h => h) hI5 hJ6) (fr_tl (ih _ _ _ _ _ _ _ _ _ _ _ _) (fun _ h => h) (fun _ h => h) hI5 hJ6)))))) (fr_ite (fr_some ag_refl aj_refl) (fr_ite (fr_some ag_refl aj_refl) (fr_some ag_refl aj_refl)))
theorem fr_323 {x1 : Int32} {x2 : Int32} {x3 : Int32} {x4 : Int32} {x5 : Int32} {x6 : Int32} {I : Nat → Nat → Int32} {J : Nat → Nat → Int64} : pm_fr [128, 139, 140, 144] [(127, 0), (127, 40), (127, 41), (127, 42), (127, 55), (127, 56)] I J (f323 x1 x2 x3 x4 x5 x6 I J) := by
  unfold f323
  exact fr_ltI (ag_w ag_refl (Or.inr (List.mem_of_elem_eq_true rfl))) (fun I1 hI1 => fr_ite (fr_ite (fr_ite (fr_bd fr_222 (zt_sub rfl) (zt_subF rfl) hI1 aj_refl (fun ov20 I21 J22 hI21 hJ22 => fr_ite (fr_tl (fr_323_64 _ _ _ _ _ _ _ _ _ _ _ _ _) (zt_sub rfl) (zt_subF rfl) hI21 hJ22) (fr_some hI21 hJ22))) (fr_bd fr_222 (zt_sub rfl) (zt_subF rfl) hI1 aj_refl (fun ov15 I16 J17 hI16 hJ17 => fr_ite (fr_tl (fr_323_64 _ _ _ _ _ _ _ _ _ _ _ _ _) (zt_sub rfl) (zt_subF rfl) hI16 hJ17) (fr_some hI16 hJ17)))) (fr_bd fr_222 (zt_sub rfl) (zt_subF rfl) hI1 aj_refl (fun ov9 I10 J11 hI10 hJ11 => fr_ite (fr_tl (fr_323_64 _ _ _ _ _ _ _ _ _ _ _ _ _) (zt_sub rfl) (zt_subF rfl) hI10 hJ11) (fr_some hI10 hJ11)))) (fr_bd fr_222 (zt_sub rfl) (zt_subF rfl) hI1 aj_refl (fun ov3 I4 J5 hI4 hJ5 => fr_ite (fr_tl (fr_323_64 _ _ _ _ _ _ _ _ _ _ _ _ _) (zt_sub rfl) (zt_subF rfl) hI4 hJ5) (fr_some hI4 hJ5))))
theorem fr_326_3 {a2 : Nat} {n2 : Nat} : ∀ (fu : Nat) (y1 : Int32) (y3 : Int32) (y4 : Int32) (y5 : Int32) (I : (Nat → Nat → Int32)) (J : (Nat → Nat → Int64)), pm_fr [156, a2] [] I J (f326_3 a2 n2 fu y1 y3 y4 y5 I J) := by
  intro fu
  induction fu with
  | zero => intros; intro _ _ _ h; cases h
  | succ fu ih =>
    intro y1 y3 y4 y5 I J
    rw [f326_3]
    exact fr_ite (fr_ite (fr_gd (fr_gd (fr_ltI (ag_w ag_refl (Or.inl (by simp))) (fun I5 hI5 => fr_tl (ih _ _ _ _ _ _) (fun _ h => h) (fun _ h => h) hI5 aj_refl)))) (fr_gd (fr_gd (fr_ltI (ag_w ag_refl (Or.inl (List.mem_of_elem_eq_true rfl))) (fun I8 hI8 => fr_tl (ih _ _ _ _ _ _) (fun _ h => h) (fun _ h => h) hI8 aj_refl))))) (fr_some ag_refl aj_refl)
theorem fr_326 {x1 : Int32} {a2 : Nat} {n2 : Nat} {x3 : Int32} {x4 : Int32} {I : Nat → Nat → Int32} {J : Nat → Nat → Int64} : pm_fr [156, a2] [] I J (f326 x1 a2 n2 x3 x4 I J) := by
  unfold f326
  exact fr_tl (fr_326_3 _ _ _ _ _ _ _) (by first | (simp; done) | (split <;> simp)) (fun _ h => h) ag_refl aj_refl
theorem fr_325 {x1 : Int32} {x2 : Int32} {I : Nat → Nat → Int32} {J : Nat → Nat → Int64} : pm_fr [143, 145, 156] [(127, 32)] I J (f325 x1 x2 I J) := by
  unfold f325
  exact fr_bd fr_326 (by first | (simp; done) | (split <;> simp)) (fun _ h => absurd h (List.not_mem_nil)) ag_refl aj_refl (fun ov1 I2 J3 hI2 hJ3 => fr_bd fr_326 (by first | (simp; done) | (split <;> simp)) (fun _ h => absurd h (List.not_mem_nil)) hI2 hJ3 (fun ov5 I6 J7 hI6 hJ7 => fr_ite (fr_gd (fr_ltI (ag_w hI6 (Or.inr (List.mem_of_elem_eq_true rfl))) (fun I11 hI11 => fr_some hI11 hJ7))) (fr_gd (fr_ltI (ag_w hI6 (Or.inl (List.mem_of_elem_eq_true rfl))) (fun I13 hI13 => fr_some hI13 hJ7)))))
theorem fr_324 {I : Nat → Nat → Int32} {J : Nat → Nat → Int64} : pm_fr [143, 145, 156] [(127, 0), (127, 32), (127, 58)] I J (f324 I J) := by
  unfold f324
  exact fr_ltI (ag_w ag_refl (Or.inr (List.mem_of_elem_eq_true rfl))) (fun I1 hI1 => fr_ite (fr_some hI1 aj_refl) (fr_bd fr_325 (fun _ h => h) (zt_subF rfl) hI1 aj_refl (fun ov3 I4 J5 hI4 hJ5 => fr_ltI (ag_w hI4 (Or.inr (List.mem_of_elem_eq_true rfl))) (fun I7 hI7 => fr_some hI7 hJ5))))
theorem fr_327 {I : Nat → Nat → Int32} {J : Nat → Nat → Int64} : pm_fr [143, 145, 156] [(127, 0), (127, 32), (127, 33), (127, 58)] I J (f327 I J) := by
  unfold f327
  exact fr_ltI (ag_w ag_refl (Or.inr (List.mem_of_elem_eq_true rfl))) (fun I1 hI1 => fr_ite (fr_some hI1 aj_refl) (fr_ltI (ag_w hI1 (Or.inr (List.mem_of_elem_eq_true rfl))) (fun I3 hI3 => fr_bd fr_325 (fun _ h => h) (zt_subF rfl) hI3 aj_refl (fun ov4 I5 J6 hI5 hJ6 => fr_ltI (ag_w hI5 (Or.inr (List.mem_of_elem_eq_true rfl))) (fun I8 hI8 => fr_some hI8 hJ6)))))
theorem fr_328 {x1 : Int32} {I : Nat → Nat → Int32} {J : Nat → Nat → Int64} : pm_fr [] [(127, 0)] I J (f328 x1 I J) := by
  unfold f328
  exact fr_ltI (ag_w ag_refl (Or.inr (List.mem_of_elem_eq_true rfl))) (fun I1 hI1 => fr_ite (fr_gd (fr_some hI1 aj_refl)) (fr_some hI1 aj_refl))
theorem fr_329 {x1 : Int32} {I : Nat → Nat → Int32} {J : Nat → Nat → Int64} : pm_fr [] [(127, 0)] I J (f329 x1 I J) := by
  unfold f329
  exact fr_ltI (ag_w ag_refl (Or.inr (List.mem_of_elem_eq_true rfl))) (fun I1 hI1 => fr_ite (fr_some hI1 aj_refl) (fr_ite (fr_some hI1 aj_refl) (fr_ite (fr_some hI1 aj_refl) (fr_some hI1 aj_refl))))
theorem fr_38 {a1 : Nat} {I : Nat → Nat → Int32} {J : Nat → Nat → Int64} : pm_fr [5, 7, 10] [(6, 2), (9, 2)] I J (f38 a1 I J) := by
  unfold f38
  exact fr_bd fr_16 (by first | (simp; done) | (split <;> simp)) (by first | (simp; done) | (split <;> simp)) ag_refl aj_refl (fun _ I1 J1 hI1 hJ1 => fr_bd fr_16 (by first | (simp; done) | (split <;> simp)) (by first | (simp; done) | (split <;> simp)) hI1 hJ1 (fun _ I2 J2 hI2 hJ2 => fr_bd fr_101 (zt_sub rfl) (fun _ h => absurd h (List.not_mem_nil)) hI2 hJ2 (fun _ I3 J3 hI3 hJ3 => fr_some hI3 hJ3)))
