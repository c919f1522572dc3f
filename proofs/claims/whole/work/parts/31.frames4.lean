/-! FRAMES: which cells a function may change -/
theorem fr_257_4  : ∀ (fu : Nat) (y1 : Int32) (y2 : Int32) (y3 : Int32) (I : (Nat → Nat → Int32)) (J : (Nat → Nat → Int64)), pm_fr [] [] I J (f257_4 fu y1 y2 y3 I J) := by
  intro fu
  induction fu with
  | zero => intros; intro _ _ _ h; cases h
  | succ fu ih =>
    intro y1 y2 y3 I J
    rw [f257_4]
    exact fr_ite (fr_gd (fr_ite (fr_tl (ih _ _ _ _ _) (fun _ h => h) (fun _ h => h) ag_refl aj_refl) (fr_tl (ih _ _ _ _ _) (fun _ h => h) (fun _ h => h) ag_refl aj_refl))) (fr_some ag_refl aj_refl)
theorem fr_257 {x1 : Int32} {I : Nat → Nat → Int32} {J : Nat → Nat → Int64} : pm_fr [] [] I J (f257 x1 I J) := by
  unfold f257
  exact fr_tl (fr_257_4 _ _ _ _ _ _) (fun _ h => h) (fun _ h => h) ag_refl aj_refl
theorem fr_256_26  : ∀ (fu : Nat) (y1 : Int32) (I : (Nat → Nat → Int32)) (J : (Nat → Nat → Int64)), pm_fr [144] [] I J (f256_26 fu y1 I J) := by
  intro fu
  induction fu with
  | zero => intros; intro _ _ _ h; cases h
  | succ fu ih =>
    intro y1 I J
    rw [f256_26]
    exact fr_ite (fr_gd (fr_ite (fr_gd (fr_ltI (ag_w ag_refl (Or.inl (List.mem_of_elem_eq_true rfl))) (fun I5 hI5 => fr_tl (ih _ _ _) (fun _ h => h) (fun _ h => h) hI5 aj_refl))) (fr_tl (ih _ _ _) (fun _ h => h) (fun _ h => h) ag_refl aj_refl))) (fr_some ag_refl aj_refl)
theorem fr_256 {I : Nat → Nat → Int32} {J : Nat → Nat → Int64} : pm_fr [144] [] I J (f256 I J) := by
  unfold f256
  exact fr_bd fr_257 (fun _ h => absurd h (List.not_mem_nil)) (fun _ h => h) ag_refl aj_refl (fun ov1 I2 J3 hI2 hJ3 => fr_ite (fr_some hI2 hJ3) (fr_gd (fr_ite (fr_some hI2 hJ3) (fr_tl (fr_256_26 _ _ _ _) (fun _ h => h) (fun _ h => h) hI2 hJ3))))
theorem fr_259_4  : ∀ (fu : Nat) (y1 : Int32) (y2 : Int32) (y3 : Int32) (I : (Nat → Nat → Int32)) (J : (Nat → Nat → Int64)), pm_fr [] [] I J (f259_4 fu y1 y2 y3 I J) := by
  intro fu
  induction fu with
  | zero => intros; intro _ _ _ h; cases h
  | succ fu ih =>
    intro y1 y2 y3 I J
    rw [f259_4]
    exact fr_ite (fr_gd (fr_ite (fr_gd (fr_ite (fr_tl (ih _ _ _ _ _) (fun _ h => h) (fun _ h => h) ag_refl aj_refl) (fr_tl (ih _ _ _ _ _) (fun _ h => h) (fun _ h => h) ag_refl aj_refl))) (fr_tl (ih _ _ _ _ _) (fun _ h => h) (fun _ h => h) ag_refl aj_refl))) (fr_some ag_refl aj_refl)
theorem fr_259 {x1 : Int32} {I : Nat → Nat → Int32} {J : Nat → Nat → Int64} : pm_fr [] [] I J (f259 x1 I J) := by
  unfold f259
  exact fr_tl (fr_259_4 _ _ _ _ _ _) (fun _ h => h) (fun _ h => h) ag_refl aj_refl
theorem fr_258 {x1 : Int32} {x2 : Int32} {I : Nat → Nat → Int32} {J : Nat → Nat → Int64} : pm_fr [144] [] I J (f258 x1 x2 I J) := by
  unfold f258
  exact fr_gd (fr_ite (fr_bd fr_259 (fun _ h => absurd h (List.not_mem_nil)) (fun _ h => h) ag_refl aj_refl (fun ov3 I4 J5 hI4 hJ5 => fr_gd (fr_ite (fr_gd (fr_ltI (ag_w hI4 (Or.inl (List.mem_of_elem_eq_true rfl))) (fun I10 hI10 => fr_gd (fr_ltI (ag_w hI10 (Or.inl (List.mem_of_elem_eq_true rfl))) (fun I12 hI12 => fr_gd (fr_ltI (ag_w hI12 (Or.inl (List.mem_of_elem_eq_true rfl))) (fun I14 hI14 => fr_gd (fr_gd (fr_ltI (ag_w hI14 (Or.inl (List.mem_of_elem_eq_true rfl))) (fun I17 hI17 => fr_some hI17 hJ5)))))))))) (fr_some hI4 hJ5)))) (fr_some ag_refl aj_refl))
theorem fr_260 {x1 : Int32} {x2 : Int32} {I : Nat → Nat → Int32} {J : Nat → Nat → Int64} : pm_fr [144] [] I J (f260 x1 x2 I J) := by
  unfold f260
  exact fr_gd (fr_ite (fr_some ag_refl aj_refl) (fr_gd (fr_ite (fr_some ag_refl aj_refl) (fr_gd (fr_ltI (ag_w ag_refl (Or.inl (List.mem_of_elem_eq_true rfl))) (fun I6 hI6 => fr_some hI6 aj_refl))))))
theorem fr_267 {x1 : Int32} {x2 : Int32} {I : Nat → Nat → Int32} {J : Nat → Nat → Int64} : pm_fr [] [] I J (f267 x1 x2 I J) := by
  unfold f267
  exact fr_ite (fr_some ag_refl aj_refl) (fr_gd (fr_ite (fr_gd (fr_gd (fr_ite (fr_some ag_refl aj_refl) (fr_some ag_refl aj_refl)))) (fr_some ag_refl aj_refl)))
theorem fr_266_4  : ∀ (fu : Nat) (y1 : Int32) (y2 : Int32) (y3 : Int32) (I : (Nat → Nat → Int32)) (J : (Nat → Nat → Int64)), pm_fr [] [] I J (f266_4 fu y1 y2 y3 I J) := by
  intro fu
  induction fu with
  | zero => intros; intro _ _ _ h; cases h
  | succ fu ih =>
    intro y1 y2 y3 I J
    rw [f266_4]
    exact fr_ite (fr_bd fr_267 (fun _ h => h) (fun _ h => h) ag_refl aj_refl (fun ov2 I3 J4 hI3 hJ4 => fr_ite (fr_tl (ih _ _ _ _ _) (fun _ h => h) (fun _ h => h) hI3 hJ4) (fr_tl (ih _ _ _ _ _) (fun _ h => h) (fun _ h => h) hI3 hJ4))) (fr_some ag_refl aj_refl)
theorem fr_266 {x1 : Int32} {I : Nat → Nat → Int32} {J : Nat → Nat → Int64} : pm_fr [] [] I J (f266 x1 I J) := by
  unfold f266
  exact fr_tl (fr_266_4 _ _ _ _ _ _) (fun _ h => h) (fun _ h => h) ag_refl aj_refl
theorem fr_270 {x0 : Int32} {x1 : Int32} {x2 : Int32} {I : Nat → Nat → Int32} {J : Nat → Nat → Int64} : pm_fr [] [] I J (f270 x0 x1 x2 I J) := by
  unfold f270
  exact fr_ite (fr_some ag_refl aj_refl) (fr_ite (fr_some ag_refl aj_refl) (fr_ite (fr_some ag_refl aj_refl) (fr_ite (fr_ite (fr_some ag_refl aj_refl) (fr_gd (fr_some ag_refl aj_refl))) (fr_ite (fr_ite (fr_ite (fr_some ag_refl aj_refl) (fr_some ag_refl aj_refl)) (fr_ite (fr_some ag_refl aj_refl) (fr_some ag_refl aj_refl))) (fr_ite (fr_ite (fr_some ag_refl aj_refl) (fr_some ag_refl aj_refl)) (fr_ite (fr_some ag_refl aj_refl) (fr_some ag_refl aj_refl)))))))
theorem fr_269_8  : ∀ (fu : Nat) (y1 : Int32) (y2 : Int32) (y3 : Int32) (I : (Nat → Nat → Int32)) (J : (Nat → Nat → Int64)), pm_fr [139] [] I J (f269_8 fu y1 y2 y3 I J) := by
  intro fu
  induction fu with
  | zero => intros; intro _ _ _ h; cases h
  | succ fu ih =>
    intro y1 y2 y3 I J
    rw [f269_8]
    exact fr_gd (fr_ite (fr_gd (fr_ite (fr_gd (fr_gd (fr_bd fr_270 (fun _ h => absurd h (List.not_mem_nil)) (fun _ h => h) ag_refl aj_refl (fun ov8 I9 J10 hI9 hJ10 => fr_gd (fr_ltI (ag_w hI9 (Or.inl (List.mem_of_elem_eq_true rfl))) (fun I13 hI13 => fr_tl (ih _ _ _ _ _) (fun _ h => h) (fun _ h => h) hI13 hJ10)))))) (fr_ite (fr_gd (fr_gd (fr_ltI (ag_w ag_refl (Or.inl (List.mem_of_elem_eq_true rfl))) (fun I21 hI21 => fr_tl (ih _ _ _ _ _) (fun _ h => h) (fun _ h => h) hI21 aj_refl)))) (fr_gd (fr_gd (fr_gd (fr_ltI (ag_w ag_refl (Or.inl (List.mem_of_elem_eq_true rfl))) (fun I18 hI18 => fr_tl (ih _ _ _ _ _) (fun _ h => h) (fun _ h => h) hI18 aj_refl)))))))) (fr_gd (fr_some ag_refl aj_refl)))
theorem fr_269 {x1 : Int32} {I : Nat → Nat → Int32} {J : Nat → Nat → Int64} : pm_fr [139] [] I J (f269 x1 I J) := by
  unfold f269
  exact fr_tl (fr_269_8 _ _ _ _ _ _) (fun _ h => h) (fun _ h => h) ag_refl aj_refl
theorem fr_268 {x1 : Int32} {I : Nat → Nat → Int32} {J : Nat → Nat → Int64} : pm_fr [139] [] I J (f268 x1 I J) := by
  unfold f268
  exact fr_gd (fr_ite (fr_gd (fr_gd (fr_ltN (fun u11 => fr_ite (fr_some ag_refl aj_refl) (fr_ite (fr_some ag_refl aj_refl) (fr_some ag_refl aj_refl)))))) (fr_bd fr_269 (fun _ h => h) (fun _ h => h) ag_refl aj_refl (fun ov3 I4 J5 hI4 hJ5 => fr_ite (fr_some hI4 hJ5) (fr_ite (fr_some hI4 hJ5) (fr_some hI4 hJ5)))))
theorem fr_265 {x1 : Int32} {x2 : Int32} {x3 : Int32} {x4 : Int32} {I : Nat → Nat → Int32} {J : Nat → Nat → Int64} : pm_fr [139, 140] [] I J (f265 x1 x2 x3 x4 I J) := by
  unfold f265
  exact fr_gd (fr_ltI (ag_w ag_refl (Or.inl (List.mem_of_elem_eq_true rfl))) (fun I2 hI2 => fr_gd (fr_ltI (ag_w hI2 (Or.inl (List.mem_of_elem_eq_true rfl))) (fun I4 hI4 => fr_gd (fr_gd (fr_ltI (ag_w hI4 (Or.inl (List.mem_of_elem_eq_true rfl))) (fun I7 hI7 => fr_gd (fr_gd (fr_ltI (ag_w hI7 (Or.inl (List.mem_of_elem_eq_true rfl))) (fun I10 hI10 => fr_bd fr_266 (fun _ h => absurd h (List.not_mem_nil)) (fun _ h => h) hI10 aj_refl (fun ov11 I12 J13 hI12 hJ13 => fr_gd (fr_ltI (ag_w hI12 (Or.inl (List.mem_of_elem_eq_true rfl))) (fun I16 hI16 => fr_gd (fr_gd (fr_ltI (ag_w hI16 (Or.inl (List.mem_of_elem_eq_true rfl))) (fun I19 hI19 => fr_gd (fr_ite (fr_gd (fr_gd (fr_ltI (ag_w hI19 (Or.inl (List.mem_of_elem_eq_true rfl))) (fun I34 hI34 => fr_gd (fr_gd (fr_ltI (ag_w hI34 (Or.inl (List.mem_of_elem_eq_true rfl))) (fun I37 hI37 => fr_bd fr_268 (zt_sub rfl) (fun _ h => h) hI37 hJ13 (fun ov38 I39 J40 hI39 hJ40 => fr_some hI39 hJ40)))))))) (fr_gd (fr_gd (fr_ltI (ag_w hI19 (Or.inl (List.mem_of_elem_eq_true rfl))) (fun I24 hI24 => fr_gd (fr_gd (fr_ltI (ag_w hI24 (Or.inl (List.mem_of_elem_eq_true rfl))) (fun I27 hI27 => fr_bd fr_268 (zt_sub rfl) (fun _ h => h) hI27 hJ13 (fun ov28 I29 J30 hI29 hJ30 => fr_some hI29 hJ30)))))))))))))))))))))))))
theorem fr_264 {x1 : Int32} {x2 : Int32} {I : Nat → Nat → Int32} {J : Nat → Nat → Int64} : pm_fr [139, 140] [] I J (f264 x1 x2 I J) := by
  unfold f264
  exact fr_gd (fr_gd (fr_bd fr_265 (fun _ h => h) (fun _ h => h) ag_refl aj_refl (fun ov3 I4 J5 hI4 hJ5 => fr_some hI4 hJ5)))
theorem fr_263 {x1 : Int32} {I : Nat → Nat → Int32} {J : Nat → Nat → Int64} : pm_fr [139, 140] [] I J (f263 x1 I J) := by
  unfold f263
  exact fr_gd (fr_ite (fr_some ag_refl aj_refl) (fr_bd fr_264 (fun _ h => h) (fun _ h => h) ag_refl aj_refl (fun ov3 I4 J5 hI4 hJ5 => fr_gd (fr_ite (fr_some hI4 hJ5) (fr_some hI4 hJ5)))))
theorem fr_262 {x1 : Int32} {I : Nat → Nat → Int32} {J : Nat → Nat → Int64} : pm_fr [139, 140] [] I J (f262 x1 I J) := by
  unfold f262
  exact fr_gd (fr_ite (fr_gd (fr_bd fr_263 (fun _ h => h) (fun _ h => h) ag_refl aj_refl (fun ov4 I5 J6 hI5 hJ6 => fr_ite (fr_some hI5 hJ6) (fr_some hI5 hJ6)))) (fr_gd (fr_ite (fr_gd (fr_bd fr_263 (fun _ h => h) (fun _ h => h) ag_refl aj_refl (fun ov12 I13 J14 hI13 hJ14 => fr_ite (fr_some hI13 hJ14) (fr_some hI13 hJ14)))) (fr_some ag_refl aj_refl))))
theorem fr_271 {x1 : Int32} {I : Nat → Nat → Int32} {J : Nat → Nat → Int64} : pm_fr [144] [] I J (f271 x1 I J) := by
  unfold f271
  exact fr_gd (fr_ltI (ag_w ag_refl (Or.inl (List.mem_of_elem_eq_true rfl))) (fun I2 hI2 => fr_gd (fr_ltI (ag_w hI2 (Or.inl (List.mem_of_elem_eq_true rfl))) (fun I4 hI4 => fr_some hI4 aj_refl))))
theorem fr_261 {x1 : Int32} {I : Nat → Nat → Int32} {J : Nat → Nat → Int64} : pm_fr [139, 140, 144] [] I J (f261 x1 I J) := by
  unfold f261
  exact fr_bd fr_262 (zt_sub rfl) (fun _ h => h) ag_refl aj_refl (fun ov1 I2 J3 hI2 hJ3 => fr_ite (fr_gd (fr_bd fr_263 (zt_sub rfl) (fun _ h => h) hI2 hJ3 (fun ov7 I8 J9 hI8 hJ9 => fr_gd (fr_ltI (ag_w hI8 (Or.inl (List.mem_of_elem_eq_true rfl))) (fun I12 hI12 => fr_bd fr_271 (zt_sub rfl) (fun _ h => h) hI12 hJ9 (fun ov13 I14 J15 hI14 hJ15 => fr_some hI14 hJ15)))))) (fr_some hI2 hJ3))
theorem fr_272_L  : ∀ (fu : Nat) (z1 : Nat) (y1 : Int32) (I : (Nat → Nat → Int32)) (J : (Nat → Nat → Int64)), pm_fr [139, 140, 144] [(127, 41), (127, 42)] I J (f272_L fu z1 y1 I J) := by
  intro fu
  induction fu with
  | zero => intros; intro _ _ _ h; cases h
  | succ fu ih =>
    intro lab
    rcases lab with _ | lab
    · intro y1 I J
      rw [f272_L]
      exact fr_ite (fr_gd (fr_ite (fr_gd (fr_gd (fr_ltI (ag_w ag_refl (Or.inl (List.mem_of_elem_eq_true rfl))) (fun I20 hI20 => fr_ltI (ag_w hI20 (Or.inr (List.mem_of_elem_eq_true rfl))) (fun I21 hI21 => fr_gd (fr_ite (fr_gd (fr_ite (fr_gd (fr_gd (fr_ltI (ag_w hI21 (Or.inl (List.mem_of_elem_eq_true rfl))) (fun I32 hI32 => fr_tl (ih _ _ _ _) (fun _ h => h) (fun _ h => h) hI32 aj_refl)))) (fr_gd (fr_gd (fr_ltI (ag_w hI21 (Or.inl (List.mem_of_elem_eq_true rfl))) (fun I28 hI28 => fr_ltI (ag_w hI28 (Or.inr (List.mem_of_elem_eq_true rfl))) (fun I29 hI29 => fr_tl (ih _ _ _ _) (fun _ h => h) (fun _ h => h) hI29 aj_refl))))))) (fr_tl (ih _ _ _ _) (fun _ h => h) (fun _ h => h) hI21 aj_refl))))))) (fr_gd (fr_ite (fr_gd (fr_ite (fr_gd (fr_gd (fr_ltI (ag_w ag_refl (Or.inl (List.mem_of_elem_eq_true rfl))) (fun I17 hI17 => fr_tl (ih _ _ _ _) (fun _ h => h) (fun _ h => h) hI17 aj_refl)))) (fr_gd (fr_gd (fr_ltI (ag_w ag_refl (Or.inl (List.mem_of_elem_eq_true rfl))) (fun I13 hI13 => fr_ltI (ag_w hI13 (Or.inr (List.mem_of_elem_eq_true rfl))) (fun I14 hI14 => fr_tl (ih _ _ _ _) (fun _ h => h) (fun _ h => h) hI14 aj_refl))))))) (fr_tl (ih _ _ _ _) (fun _ h => h) (fun _ h => h) ag_refl aj_refl))))) (fr_gd (fr_gd (fr_ltI (ag_w ag_refl (Or.inl (List.mem_of_elem_eq_true rfl))) (fun I4 hI4 => fr_tl (ih _ _ _ _) (fun _ h => h) (fun _ h => h) hI4 aj_refl))))
    · intro y1 I J
      rw [f272_L]
      exact fr_ite (fr_gd (fr_ite (fr_bd fr_263 (zt_sub rfl) (fun _ h => absurd h (List.not_mem_nil)) ag_refl aj_refl (fun ov36 I37 J38 hI37 hJ38 => fr_ite (fr_bd fr_271 (zt_sub rfl) (fun _ h => absurd h (List.not_mem_nil)) hI37 hJ38 (fun ov41 I42 J43 hI42 hJ43 => fr_tl (ih _ _ _ _) (fun _ h => h) (fun _ h => h) hI42 hJ43)) (fr_tl (ih _ _ _ _) (fun _ h => h) (fun _ h => h) hI37 hJ38))) (fr_tl (ih _ _ _ _) (fun _ h => h) (fun _ h => h) ag_refl aj_refl))) (fr_some ag_refl aj_refl)
theorem fr_272 {I : Nat → Nat → Int32} {J : Nat → Nat → Int64} : pm_fr [139, 140, 144] [(127, 41), (127, 42)] I J (f272 I J) := by
  unfold f272
  exact fr_tl (fr_272_L _ _ _ _ _) (fun _ h => h) (fun _ h => h) ag_refl aj_refl
theorem fr_255 {x1 : Int32} {x2 : Int32} {x3 : Int32} {I : Nat → Nat → Int32} {J : Nat → Nat → Int64} : pm_fr [139, 140, 144] [(127, 41), (127, 42)] I J (f255 x1 x2 x3 I J) := by
  unfold f255
  exact fr_ite (fr_bd fr_256 (zt_sub rfl) (fun _ h => absurd h (List.not_mem_nil)) ag_refl aj_refl (fun ov61 I62 J63 hI62 hJ63 => fr_some hI62 hJ63)) (fr_ite (fr_bd fr_258 (zt_sub rfl) (fun _ h => absurd h (List.not_mem_nil)) ag_refl aj_refl (fun ov57 I58 J59 hI58 hJ59 => fr_some hI58 hJ59)) (fr_ite (fr_ite (fr_bd fr_260 (zt_sub rfl) (fun _ h => absurd h (List.not_mem_nil)) ag_refl aj_refl (fun ov9 I10 J11 hI10 hJ11 => fr_some hI10 hJ11)) (fr_bd fr_260 (zt_sub rfl) (fun _ h => absurd h (List.not_mem_nil)) ag_refl aj_refl (fun ov5 I6 J7 hI6 hJ7 => fr_some hI6 hJ7))) (fr_ite (fr_ite (fr_bd fr_260 (zt_sub rfl) (fun _ h => absurd h (List.not_mem_nil)) ag_refl aj_refl (fun ov53 I54 J55 hI54 hJ55 => fr_some hI54 hJ55)) (fr_bd fr_260 (zt_sub rfl) (fun _ h => absurd h (List.not_mem_nil)) ag_refl aj_refl (fun ov49 I50 J51 hI50 hJ51 => fr_some hI50 hJ51))) (fr_ite (fr_bd fr_261 (fun _ h => h) (fun _ h => absurd h (List.not_mem_nil)) ag_refl aj_refl (fun ov44 I45 J46 hI45 hJ46 => fr_some hI45 hJ46)) (fr_ite (fr_gd (fr_ite (fr_some ag_refl aj_refl) (fr_bd fr_272 (fun _ h => h) (fun _ h => h) ag_refl aj_refl (fun ov40 I41 J42 hI41 hJ42 => fr_some hI41 hJ42)))) (fr_gd (fr_ite (fr_gd (fr_ite (fr_ite (fr_some ag_refl aj_refl) (fr_ite (fr_gd (fr_ltI (ag_w ag_refl (Or.inl (List.mem_of_elem_eq_true rfl))) (fun I37 hI37 => fr_some hI37 aj_refl))) (fr_ite (fr_gd (fr_ltI (ag_w ag_refl (Or.inl (List.mem_of_elem_eq_true rfl))) (fun I35 hI35 => fr_some hI35 aj_refl))) (fr_gd (fr_ltI (ag_w ag_refl (Or.inl (List.mem_of_elem_eq_true rfl))) (fun I33 hI33 => fr_some hI33 aj_refl)))))) (fr_some ag_refl aj_refl))) (fr_ite (fr_some ag_refl aj_refl) (fr_ite (fr_gd (fr_ltI (ag_w ag_refl (Or.inl (List.mem_of_elem_eq_true rfl))) (fun I26 hI26 => fr_some hI26 aj_refl))) (fr_ite (fr_gd (fr_ltI (ag_w ag_refl (Or.inl (List.mem_of_elem_eq_true rfl))) (fun I24 hI24 => fr_some hI24 aj_refl))) (fr_gd (fr_ltI (ag_w ag_refl (Or.inl (List.mem_of_elem_eq_true rfl))) (fun I22 hI22 => fr_some hI22 aj_refl)))))))))))))
theorem fr_g254  : ∀ (fu : Nat) (z1 : Nat) (z2 : Nat) (x1 : Int32) (x2 : Int32) (y3 : Int32) (y4 : Int32) (y5 : Int32) (I : (Nat → Nat → Int32)) (J : (Nat → Nat → Int64)), pm_fr [139, 140, 144] [(127, 34), (127, 35), (127, 36), (127, 41), (127, 42)] I J (g254 fu z1 z2 x1 x2 y3 y4 y5 I J) := by
  intro fu
  induction fu with
  | zero => intros; intro _ _ _ h; cases h
  | succ fu ih =>
    intro dep lab
    rcases dep with _ | dep
    · intros; intro _ _ _ h; cases h
    · rcases lab with _ | _ | lab
      · intro x1 x2 _ _ _ I J
        rw [g254]
        exact fr_tl (ih _ _ _ _ _ _ _ _ _) (fun _ h => h) (fun _ h => h) ag_refl aj_refl
      · intro _ y2 y3 _ _ I J
        rw [g254]
        exact fr_ite (fr_ite (fr_ltI (ag_w ag_refl (Or.inr (List.mem_of_elem_eq_true rfl))) (fun I3 hI3 => fr_gd (fr_ite (fr_gd (fr_tl (ih _ _ _ _ _ _ _ _ _) (fun _ h => h) (fun _ h => h) hI3 aj_refl)) (fr_gd (fr_gd (fr_gd (fr_bd fr_255 (fun _ h => h) (zt_subF rfl) hI3 aj_refl (fun ov9 I10 J11 hI10 hJ11 => fr_ite (fr_ltI (ag_w hI10 (Or.inr (List.mem_of_elem_eq_true rfl))) (fun I15 hI15 => fr_tl (ih _ _ _ _ _ _ _ _ _) (fun _ h => h) (fun _ h => h) hI15 hJ11)) (fr_ltI (ag_w hI10 (Or.inr (List.mem_of_elem_eq_true rfl))) (fun I14 hI14 => fr_tl (ih _ _ _ _ _ _ _ _ _) (fun _ h => h) (fun _ h => h) hI14 hJ11)))))))))) (fr_some ag_refl aj_refl)) (fr_some ag_refl aj_refl)
      · intro _ y2 y3 y4 y5 I J
        rw [g254]
        exact fr_gd (fr_ite (fr_ite (fr_bd (ih _ _ _ _ _ _ _ _ _) (fun _ h => h) (fun _ h => h) ag_refl aj_refl (fun ov4 I5 J6 hI5 hJ6 => fr_tl (ih _ _ _ _ _ _ _ _ _) (fun _ h => h) (fun _ h => h) hI5 hJ6)) (fr_tl (ih _ _ _ _ _ _ _ _ _) (fun _ h => h) (fun _ h => h) ag_refl aj_refl)) (fr_tl (ih _ _ _ _ _ _ _ _ _) (fun _ h => h) (fun _ h => h) ag_refl aj_refl))
theorem fr_254 {x1 : Int32} {x2 : Int32} {I : Nat → Nat → Int32} {J : Nat → Nat → Int64} : pm_fr [139, 140, 144] [(127, 34), (127, 35), (127, 36), (127, 41), (127, 42)] I J (f254 x1 x2 I J) := by
  unfold f254
  exact fr_tl (fr_g254 _ _ _ _ _ _ _ _ _ _) (fun _ h => h) (fun _ h => h) ag_refl aj_refl
theorem fr_249_L  : ∀ (fu : Nat) (z1 : Nat) (y3 : Int32) (I : (Nat → Nat → Int32)) (J : (Nat → Nat → Int64)), pm_fr [139, 140, 141, 142, 143, 144, 145] [(127, 4), (127, 5), (127, 6), (127, 7), (127, 8), (127, 31), (127, 32), (127, 33), (127, 34), (127, 35), (127, 36), (127, 40), (127, 41), (127, 42)] I J (f249_L fu z1 y3 I J) := by
  intro fu
  induction fu with
  | zero => intros; intro _ _ _ h; cases h
  | succ fu ih =>
    intro lab
    rcases lab with _ | lab
    · intro _ I J
      rw [f249_L]
      exact fr_ite (fr_bd fr_225 (fun _ h => absurd h (List.not_mem_nil)) (zt_subF rfl) ag_refl aj_refl (fun ov11 I12 J13 hI12 hJ13 => fr_ite (fr_bd fr_250 (zt_sub rfl) (zt_subF rfl) hI12 hJ13 (fun ov25 I26 J27 hI26 hJ27 => fr_tl (ih _ _ _ _) (fun _ h => h) (fun _ h => h) hI26 hJ27)) (fr_bd fr_239 (fun _ h => absurd h (List.not_mem_nil)) (zt_subF rfl) hI12 hJ13 (fun ov16 I17 J18 hI17 hJ18 => fr_ite (fr_bd fr_218 (by first | (simp; done) | (split <;> simp)) (fun _ h => absurd h (List.not_mem_nil)) hI17 hJ18 (fun ov21 I22 J23 hI22 hJ23 => fr_tl (ih _ _ _ _) (fun _ h => h) (fun _ h => h) hI22 hJ23)) (fr_some hI17 hJ18))))) (fr_bd fr_239 (fun _ h => absurd h (List.not_mem_nil)) (zt_subF rfl) ag_refl aj_refl (fun ov2 I3 J4 hI3 hJ4 => fr_ite (fr_bd fr_218 (by first | (simp; done) | (split <;> simp)) (fun _ h => absurd h (List.not_mem_nil)) hI3 hJ4 (fun ov7 I8 J9 hI8 hJ9 => fr_tl (ih _ _ _ _) (fun _ h => h) (fun _ h => h) hI8 hJ9)) (fr_some hI3 hJ4)))
    · intro y3 I J
      rw [f249_L]
      exact fr_ite (fr_gd (fr_gd (fr_ltI (ag_w ag_refl (Or.inl (List.mem_of_elem_eq_true rfl))) (fun I49 hI49 => fr_tl (ih _ _ _ _) (fun _ h => h) (fun _ h => h) hI49 aj_refl)))) (fr_ltI (ag_w ag_refl (Or.inr (List.mem_of_elem_eq_true rfl))) (fun I30 hI30 => fr_bd fr_253 (zt_sub rfl) (zt_subF rfl) hI30 aj_refl (fun ov31 I32 J33 hI32 hJ33 => fr_ltI (ag_w hI32 (Or.inr (List.mem_of_elem_eq_true rfl))) (fun I35 hI35 => fr_ltI (ag_w hI35 (Or.inr (List.mem_of_elem_eq_true rfl))) (fun I36 hI36 => fr_ltI (ag_w hI36 (Or.inr (List.mem_of_elem_eq_true rfl))) (fun I37 hI37 => fr_bd fr_254 (zt_sub rfl) (zt_subF rfl) hI37 hJ33 (fun ov38 I39 J40 hI39 hJ40 => fr_bd fr_218 (by first | (simp; done) | (split <;> simp)) (fun _ h => absurd h (List.not_mem_nil)) hI39 hJ40 (fun ov42 I43 J44 hI43 hJ44 => fr_ltI (ag_w hI43 (Or.inr (List.mem_of_elem_eq_true rfl))) (fun I46 hI46 => fr_some hI46 hJ44)))))))))
theorem fr_249 {x1 : Int32} {I : Nat → Nat → Int32} {J : Nat → Nat → Int64} : pm_fr [128, 139, 140, 141, 142, 143, 144, 145] [(127, 0), (127, 2), (127, 3), (127, 4), (127, 5), (127, 6), (127, 7), (127, 8), (127, 31), (127, 32), (127, 33), (127, 34), (127, 35), (127, 36), (127, 40), (127, 41), (127, 42)] I J (f249 x1 I J) := by
  unfold f249
  exact fr_ltI (ag_w ag_refl (Or.inr (List.mem_of_elem_eq_true rfl))) (fun I1 hI1 => fr_ite (fr_bd fr_222 (zt_sub rfl) (zt_subF rfl) hI1 aj_refl (fun ov3 I4 J5 hI4 hJ5 => fr_ite (fr_bd fr_223 (fun _ h => absurd h (List.not_mem_nil)) (zt_subF rfl) hI4 hJ5 (fun ov8 I9 J10 hI9 hJ10 => fr_ite (fr_bd fr_239 (fun _ h => absurd h (List.not_mem_nil)) (zt_subF rfl) hI9 hJ10 (fun ov14 I15 J16 hI15 hJ16 => fr_some hI15 hJ16)) (fr_ltI (ag_w hI9 (Or.inr (List.mem_of_elem_eq_true rfl))) (fun I13 hI13 => fr_tl (fr_249_L _ _ _ _ _) (zt_sub rfl) (zt_subF rfl) hI13 hJ10)))) (fr_some hI4 hJ5))) (fr_ite (fr_bd fr_222 (zt_sub rfl) (zt_subF rfl) hI1 aj_refl (fun ov19 I20 J21 hI20 hJ21 => fr_ite (fr_bd fr_223 (fun _ h => absurd h (List.not_mem_nil)) (zt_subF rfl) hI20 hJ21 (fun ov24 I25 J26 hI25 hJ26 => fr_ite (fr_bd fr_239 (fun _ h => absurd h (List.not_mem_nil)) (zt_subF rfl) hI25 hJ26 (fun ov30 I31 J32 hI31 hJ32 => fr_some hI31 hJ32)) (fr_ltI (ag_w hI25 (Or.inr (List.mem_of_elem_eq_true rfl))) (fun I29 hI29 => fr_tl (fr_249_L _ _ _ _ _) (zt_sub rfl) (zt_subF rfl) hI29 hJ26)))) (fr_some hI20 hJ21))) (fr_ite (fr_bd fr_222 (zt_sub rfl) (zt_subF rfl) hI1 aj_refl (fun ov35 I36 J37 hI36 hJ37 => fr_ite (fr_bd fr_223 (fun _ h => absurd h (List.not_mem_nil)) (zt_subF rfl) hI36 hJ37 (fun ov40 I41 J42 hI41 hJ42 => fr_ite (fr_bd fr_239 (fun _ h => absurd h (List.not_mem_nil)) (zt_subF rfl) hI41 hJ42 (fun ov46 I47 J48 hI47 hJ48 => fr_some hI47 hJ48)) (fr_ltI (ag_w hI41 (Or.inr (List.mem_of_elem_eq_true rfl))) (fun I45 hI45 => fr_tl (fr_249_L _ _ _ _ _) (zt_sub rfl) (zt_subF rfl) hI45 hJ42)))) (fr_some hI36 hJ37))) (fr_bd fr_222 (zt_sub rfl) (zt_subF rfl) hI1 aj_refl (fun ov50 I51 J52 hI51 hJ52 => fr_ite (fr_bd fr_223 (fun _ h => absurd h (List.not_mem_nil)) (zt_subF rfl) hI51 hJ52 (fun ov55 I56 J57 hI56 hJ57 => fr_ite (fr_bd fr_239 (fun _ h => absurd h (List.not_mem_nil)) (zt_subF rfl) hI56 hJ57 (fun ov61 I62 J63 hI62 hJ63 => fr_some hI62 hJ63)) (fr_ltI (ag_w hI56 (Or.inr (List.mem_of_elem_eq_true rfl))) (fun I60 hI60 => fr_tl (fr_249_L _ _ _ _ _) (zt_sub rfl) (zt_subF rfl) hI60 hJ57)))) (fr_some hI51 hJ52))))))
theorem fr_273_L  : ∀ (fu : Nat) (z1 : Nat) (y2 : Int32) (y3 : Int32) (y4 : Int32) (y5 : Int32) (I : (Nat → Nat → Int32)) (J : (Nat → Nat → Int64)), pm_fr [146, 147] [(127, 4), (127, 5), (127, 6), (127, 8), (127, 45)] I J (f273_L fu z1 y2 y3 y4 y5 I J) := by
  intro fu
  induction fu with
  | zero => intros; intro _ _ _ h; cases h
  | succ fu ih =>
    intro lab
    rcases lab with _ | lab
    · intro y2 _ _ _ I J
      rw [f273_L]
      exact fr_ite (fr_bd fr_225 (fun _ h => absurd h (List.not_mem_nil)) (zt_subF rfl) ag_refl aj_refl (fun ov12 I13 J14 hI13 hJ14 => fr_ite (fr_bd fr_235 (fun _ h => absurd h (List.not_mem_nil)) (zt_subF rfl) hI13 hJ14 (fun ov27 I28 J29 hI28 hJ29 => fr_tl (ih _ _ _ _ _ _ _) (fun _ h => h) (fun _ h => h) hI28 hJ29)) (fr_bd fr_239 (fun _ h => absurd h (List.not_mem_nil)) (zt_subF rfl) hI13 hJ14 (fun ov17 I18 J19 hI18 hJ19 => fr_ite (fr_ltI (ag_w hI18 (Or.inr (List.mem_of_elem_eq_true rfl))) (fun I22 hI22 => fr_bd fr_218 (by first | (simp; done) | (split <;> simp)) (fun _ h => absurd h (List.not_mem_nil)) hI22 hJ19 (fun ov23 I24 J25 hI24 hJ25 => fr_some hI24 hJ25))) (fr_some hI18 hJ19))))) (fr_bd fr_239 (fun _ h => absurd h (List.not_mem_nil)) (zt_subF rfl) ag_refl aj_refl (fun ov2 I3 J4 hI3 hJ4 => fr_ite (fr_ltI (ag_w hI3 (Or.inr (List.mem_of_elem_eq_true rfl))) (fun I7 hI7 => fr_bd fr_218 (by first | (simp; done) | (split <;> simp)) (fun _ h => absurd h (List.not_mem_nil)) hI7 hJ4 (fun ov8 I9 J10 hI9 hJ10 => fr_some hI9 hJ10))) (fr_some hI3 hJ4)))
    · intro y2 y3 y4 y5 I J
      rw [f273_L]
      exact fr_ite (fr_ite (fr_gd (fr_ite (fr_bd fr_232 (fun _ h => absurd h (List.not_mem_nil)) (zt_subF rfl) ag_refl aj_refl (fun ov185 I186 J187 hI186 hJ187 => fr_tl (ih _ _ _ _ _ _ _) (fun _ h => h) (fun _ h => h) hI186 hJ187)) (fr_tl (ih _ _ _ _ _ _ _) (fun _ h => h) (fun _ h => h) ag_refl aj_refl))) (fr_ite (fr_ite (fr_bd fr_232 (fun _ h => absurd h (List.not_mem_nil)) (zt_subF rfl) ag_refl aj_refl (fun ov156 I157 J158 hI157 hJ158 => fr_bd fr_235 (fun _ h => absurd h (List.not_mem_nil)) (zt_subF rfl) hI157 hJ158 (fun ov160 I161 J162 hI161 hJ162 => fr_bd fr_238 (fun _ h => absurd h (List.not_mem_nil)) (zt_subF rfl) hI161 hJ162 (fun ov164 I165 J166 hI165 hJ166 => fr_ite (fr_gd (fr_ltI (ag_w hI165 (Or.inl (List.mem_of_elem_eq_true rfl))) (fun I170 hI170 => fr_gd (fr_ltI (ag_w hI170 (Or.inl (List.mem_of_elem_eq_true rfl))) (fun I172 hI172 => fr_tl (ih _ _ _ _ _ _ _) (fun _ h => h) (fun _ h => h) hI172 hJ166))))) (fr_bd fr_239 (fun _ h => absurd h (List.not_mem_nil)) (zt_subF rfl) hI165 hJ166 (fun ov173 I174 J175 hI174 hJ175 => fr_ite (fr_ltI (ag_w hI174 (Or.inr (List.mem_of_elem_eq_true rfl))) (fun I178 hI178 => fr_bd fr_218 (by first | (simp; done) | (split <;> simp)) (fun _ h => absurd h (List.not_mem_nil)) hI178 hJ175 (fun ov179 I180 J181 hI180 hJ181 => fr_some hI180 hJ181))) (fr_some hI174 hJ175))))))) (fr_bd fr_235 (fun _ h => absurd h (List.not_mem_nil)) (zt_subF rfl) ag_refl aj_refl (fun ov133 I134 J135 hI134 hJ135 => fr_bd fr_238 (fun _ h => absurd h (List.not_mem_nil)) (zt_subF rfl) hI134 hJ135 (fun ov137 I138 J139 hI138 hJ139 => fr_ite (fr_gd (fr_ltI (ag_w hI138 (Or.inl (List.mem_of_elem_eq_true rfl))) (fun I143 hI143 => fr_gd (fr_ltI (ag_w hI143 (Or.inl (List.mem_of_elem_eq_true rfl))) (fun I145 hI145 => fr_tl (ih _ _ _ _ _ _ _) (fun _ h => h) (fun _ h => h) hI145 hJ139))))) (fr_bd fr_239 (fun _ h => absurd h (List.not_mem_nil)) (zt_subF rfl) hI138 hJ139 (fun ov146 I147 J148 hI147 hJ148 => fr_ite (fr_ltI (ag_w hI147 (Or.inr (List.mem_of_elem_eq_true rfl))) (fun I151 hI151 => fr_bd fr_218 (by first | (simp; done) | (split <;> simp)) (fun _ h => absurd h (List.not_mem_nil)) hI151 hJ148 (fun ov152 I153 J154 hI153 hJ154 => fr_some hI153 hJ154))) (fr_some hI147 hJ148))))))) (fr_bd fr_235 (fun _ h => absurd h (List.not_mem_nil)) (zt_subF rfl) ag_refl aj_refl (fun ov109 I110 J111 hI110 hJ111 => fr_bd fr_238 (fun _ h => absurd h (List.not_mem_nil)) (zt_subF rfl) hI110 hJ111 (fun ov113 I114 J115 hI114 hJ115 => fr_ite (fr_gd (fr_ltI (ag_w hI114 (Or.inl (List.mem_of_elem_eq_true rfl))) (fun I119 hI119 => fr_gd (fr_ltI (ag_w hI119 (Or.inl (List.mem_of_elem_eq_true rfl))) (fun I121 hI121 => fr_tl (ih _ _ _ _ _ _ _) (fun _ h => h) (fun _ h => h) hI121 hJ115))))) (fr_bd fr_239 (fun _ h => absurd h (List.not_mem_nil)) (zt_subF rfl) hI114 hJ115 (fun ov122 I123 J124 hI123 hJ124 => fr_ite (fr_ltI (ag_w hI123 (Or.inr (List.mem_of_elem_eq_true rfl))) (fun I127 hI127 => fr_bd fr_218 (by first | (simp; done) | (split <;> simp)) (fun _ h => absurd h (List.not_mem_nil)) hI127 hJ124 (fun ov128 I129 J130 hI129 hJ130 => fr_some hI129 hJ130))) (fr_some hI123 hJ124)))))))) (fr_ite (fr_ite (fr_bd fr_232 (fun _ h => absurd h (List.not_mem_nil)) (zt_subF rfl) ag_refl aj_refl (fun ov80 I81 J82 hI81 hJ82 => fr_bd fr_235 (fun _ h => absurd h (List.not_mem_nil)) (zt_subF rfl) hI81 hJ82 (fun ov84 I85 J86 hI85 hJ86 => fr_bd fr_238 (fun _ h => absurd h (List.not_mem_nil)) (zt_subF rfl) hI85 hJ86 (fun ov88 I89 J90 hI89 hJ90 => fr_ite (fr_gd (fr_ltI (ag_w hI89 (Or.inl (List.mem_of_elem_eq_true rfl))) (fun I94 hI94 => fr_gd (fr_ltI (ag_w hI94 (Or.inl (List.mem_of_elem_eq_true rfl))) (fun I96 hI96 => fr_tl (ih _ _ _ _ _ _ _) (fun _ h => h) (fun _ h => h) hI96 hJ90))))) (fr_bd fr_239 (fun _ h => absurd h (List.not_mem_nil)) (zt_subF rfl) hI89 hJ90 (fun ov97 I98 J99 hI98 hJ99 => fr_ite (fr_ltI (ag_w hI98 (Or.inr (List.mem_of_elem_eq_true rfl))) (fun I102 hI102 => fr_bd fr_218 (by first | (simp; done) | (split <;> simp)) (fun _ h => absurd h (List.not_mem_nil)) hI102 hJ99 (fun ov103 I104 J105 hI104 hJ105 => fr_some hI104 hJ105))) (fr_some hI98 hJ99))))))) (fr_bd fr_235 (fun _ h => absurd h (List.not_mem_nil)) (zt_subF rfl) ag_refl aj_refl (fun ov57 I58 J59 hI58 hJ59 => fr_bd fr_238 (fun _ h => absurd h (List.not_mem_nil)) (zt_subF rfl) hI58 hJ59 (fun ov61 I62 J63 hI62 hJ63 => fr_ite (fr_gd (fr_ltI (ag_w hI62 (Or.inl (List.mem_of_elem_eq_true rfl))) (fun I67 hI67 => fr_gd (fr_ltI (ag_w hI67 (Or.inl (List.mem_of_elem_eq_true rfl))) (fun I69 hI69 => fr_tl (ih _ _ _ _ _ _ _) (fun _ h => h) (fun _ h => h) hI69 hJ63))))) (fr_bd fr_239 (fun _ h => absurd h (List.not_mem_nil)) (zt_subF rfl) hI62 hJ63 (fun ov70 I71 J72 hI71 hJ72 => fr_ite (fr_ltI (ag_w hI71 (Or.inr (List.mem_of_elem_eq_true rfl))) (fun I75 hI75 => fr_bd fr_218 (by first | (simp; done) | (split <;> simp)) (fun _ h => absurd h (List.not_mem_nil)) hI75 hJ72 (fun ov76 I77 J78 hI77 hJ78 => fr_some hI77 hJ78))) (fr_some hI71 hJ72))))))) (fr_bd fr_235 (fun _ h => absurd h (List.not_mem_nil)) (zt_subF rfl) ag_refl aj_refl (fun ov33 I34 J35 hI34 hJ35 => fr_bd fr_238 (fun _ h => absurd h (List.not_mem_nil)) (zt_subF rfl) hI34 hJ35 (fun ov37 I38 J39 hI38 hJ39 => fr_ite (fr_gd (fr_ltI (ag_w hI38 (Or.inl (List.mem_of_elem_eq_true rfl))) (fun I43 hI43 => fr_gd (fr_ltI (ag_w hI43 (Or.inl (List.mem_of_elem_eq_true rfl))) (fun I45 hI45 => fr_tl (ih _ _ _ _ _ _ _) (fun _ h => h) (fun _ h => h) hI45 hJ39))))) (fr_bd fr_239 (fun _ h => absurd h (List.not_mem_nil)) (zt_subF rfl) hI38 hJ39 (fun ov46 I47 J48 hI47 hJ48 => fr_ite (fr_ltI (ag_w hI47 (Or.inr (List.mem_of_elem_eq_true rfl))) (fun I51 hI51 => fr_bd fr_218 (by first | (simp; done) | (split <;> simp)) (fun _ h => absurd h (List.not_mem_nil)) hI51 hJ48 (fun ov52 I53 J54 hI53 hJ54 => fr_some hI53 hJ54))) (fr_some hI47 hJ48)))))))
theorem fr_273 {x1 : Int32} {I : Nat → Nat → Int32} {J : Nat → Nat → Int64} : pm_fr [128, 146, 147] [(127, 0), (127, 2), (127, 3), (127, 4), (127, 5), (127, 6), (127, 7), (127, 8), (127, 45)] I J (f273 x1 I J) := by
  unfold f273
  exact fr_ltI (ag_w ag_refl (Or.inr (List.mem_of_elem_eq_true rfl))) (fun I1 hI1 => fr_ite (fr_bd fr_222 (zt_sub rfl) (zt_subF rfl) hI1 aj_refl (fun ov3 I4 J5 hI4 hJ5 => fr_ite (fr_bd fr_223 (fun _ h => absurd h (List.not_mem_nil)) (zt_subF rfl) hI4 hJ5 (fun ov8 I9 J10 hI9 hJ10 => fr_tl (fr_273_L _ _ _ _ _ _ _ _) (zt_sub rfl) (zt_subF rfl) hI9 hJ10)) (fr_some hI4 hJ5))) (fr_ite (fr_bd fr_222 (zt_sub rfl) (zt_subF rfl) hI1 aj_refl (fun ov13 I14 J15 hI14 hJ15 => fr_ite (fr_bd fr_223 (fun _ h => absurd h (List.not_mem_nil)) (zt_subF rfl) hI14 hJ15 (fun ov18 I19 J20 hI19 hJ20 => fr_tl (fr_273_L _ _ _ _ _ _ _ _) (zt_sub rfl) (zt_subF rfl) hI19 hJ20)) (fr_some hI14 hJ15))) (fr_ite (fr_bd fr_222 (zt_sub rfl) (zt_subF rfl) hI1 aj_refl (fun ov23 I24 J25 hI24 hJ25 => fr_ite (fr_bd fr_223 (fun _ h => absurd h (List.not_mem_nil)) (zt_subF rfl) hI24 hJ25 (fun ov28 I29 J30 hI29 hJ30 => fr_tl (fr_273_L _ _ _ _ _ _ _ _) (zt_sub rfl) (zt_subF rfl) hI29 hJ30)) (fr_some hI24 hJ25))) (fr_bd fr_222 (zt_sub rfl) (zt_subF rfl) hI1 aj_refl (fun ov32 I33 J34 hI33 hJ34 => fr_ite (fr_bd fr_223 (fun _ h => absurd h (List.not_mem_nil)) (zt_subF rfl) hI33 hJ34 (fun ov37 I38 J39 hI38 hJ39 => fr_tl (fr_273_L _ _ _ _ _ _ _ _) (zt_sub rfl) (zt_subF rfl) hI38 hJ39)) (fr_some hI33 hJ34))))))
theorem fr_274_26  : ∀ (fu : Nat) (y1 : Int32) (I : (Nat → Nat → Int32)) (J : (Nat → Nat → Int64)), pm_fr [143] [(127, 33)] I J (f274_26 fu y1 I J) := by
  intro fu
  induction fu with
  | zero => intros; intro _ _ _ h; cases h
  | succ fu ih =>
    intro y1 I J
    rw [f274_26]
    exact fr_ite (fr_gd (fr_gd (fr_ltI (ag_w ag_refl (Or.inl (List.mem_of_elem_eq_true rfl))) (fun I5 hI5 => fr_tl (ih _ _ _) (fun _ h => h) (fun _ h => h) hI5 aj_refl)))) (fr_ltI (ag_w ag_refl (Or.inr (List.mem_of_elem_eq_true rfl))) (fun I2 hI2 => fr_some hI2 aj_refl))
theorem fr_274 {I : Nat → Nat → Int32} {J : Nat → Nat → Int64} : pm_fr [143] [(127, 0), (127, 32), (127, 33)] I J (f274 I J) := by
  unfold f274
  exact fr_ltI (ag_w ag_refl (Or.inr (List.mem_of_elem_eq_true rfl))) (fun I1 hI1 => fr_ite (fr_some hI1 aj_refl) (fr_ltI (ag_w hI1 (Or.inr (List.mem_of_elem_eq_true rfl))) (fun I3 hI3 => fr_tl (fr_274_26 _ _ _ _) (fun _ h => h) (zt_subF rfl) hI3 aj_refl)))
theorem fr_275 {x1 : Int32} {I : Nat → Nat → Int32} {J : Nat → Nat → Int64} : pm_fr [128, 144] [(127, 0), (127, 40), (127, 41), (127, 42)] I J (f275 x1 I J) := by
  unfold f275
  exact fr_ltI (ag_w ag_refl (Or.inr (List.mem_of_elem_eq_true rfl))) (fun I1 hI1 => fr_bd fr_222 (zt_sub rfl) (zt_subF rfl) hI1 aj_refl (fun ov2 I3 J4 hI3 hJ4 => fr_ite (fr_bd fr_253 (zt_sub rfl) (zt_subF rfl) hI3 hJ4 (fun ov7 I8 J9 hI8 hJ9 => fr_ite (fr_ite (fr_some hI8 hJ9) (fr_ite (fr_some hI8 hJ9) (fr_ite (fr_gd (fr_some hI8 hJ9)) (fr_gd (fr_some hI8 hJ9))))) (fr_ite (fr_bd fr_257 (fun _ h => absurd h (List.not_mem_nil)) (fun _ h => absurd h (List.not_mem_nil)) hI8 hJ9 (fun ov15 I16 J17 hI16 hJ17 => fr_some hI16 hJ17)) (fr_ite (fr_some hI8 hJ9) (fr_ite (fr_some hI8 hJ9) (fr_some hI8 hJ9)))))) (fr_some hI3 hJ4)))
theorem fr_277 {x1 : Int32} {x2 : Int32} {I : Nat → Nat → Int32} {J : Nat → Nat → Int64} : pm_fr [128] [(127, 0)] I J (f277 x1 x2 I J) := by
  unfold f277
  exact fr_bd fr_222 (fun _ h => h) (fun _ h => h) ag_refl aj_refl (fun ov1 I2 J3 hI2 hJ3 => fr_some hI2 hJ3)
theorem fr_276 {x1 : Int32} {x2 : Int32} {I : Nat → Nat → Int32} {J : Nat → Nat → Int64} : pm_fr [128] [(127, 0)] I J (f276 x1 x2 I J) := by
  unfold f276
  exact fr_ltI (ag_w ag_refl (Or.inr (List.mem_of_elem_eq_true rfl))) (fun I1 hI1 => fr_bd fr_277 (fun _ h => h) (fun _ h => h) hI1 aj_refl (fun ov2 I3 J4 hI3 hJ4 => fr_ite (fr_bd fr_222 (fun _ h => h) (fun _ h => h) hI3 hJ4 (fun ov7 I8 J9 hI8 hJ9 => fr_ite (fr_ite (fr_gd (fr_some hI8 hJ9)) (fr_ite (fr_ite (fr_gd (fr_some hI8 hJ9)) (fr_ite (fr_gd (fr_some hI8 hJ9)) (fr_gd (fr_some hI8 hJ9)))) (fr_ite (fr_ite (fr_gd (fr_some hI8 hJ9)) (fr_gd (fr_some hI8 hJ9))) (fr_ite (fr_gd (fr_some hI8 hJ9)) (fr_gd (fr_some hI8 hJ9)))))) (fr_some hI8 hJ9))) (fr_some hI3 hJ4)))
theorem fr_279 {x1 : Int32} {x2 : Int32} {I : Nat → Nat → Int32} {J : Nat → Nat → Int64} : pm_fr [128] [(127, 0)] I J (f279 x1 x2 I J) := by
  unfold f279
  exact fr_bd fr_222 (fun _ h => h) (fun _ h => h) ag_refl aj_refl (fun ov1 I2 J3 hI2 hJ3 => fr_some hI2 hJ3)
theorem fr_278 {x1 : Int32} {x2 : Int32} {I : Nat → Nat → Int32} {J : Nat → Nat → Int64} : pm_fr [128, 144] [(127, 0), (127, 40), (127, 41), (127, 42)] I J (f278 x1 x2 I J) := by
  unfold f278
  exact fr_ltI (ag_w ag_refl (Or.inr (List.mem_of_elem_eq_true rfl))) (fun I1 hI1 => fr_bd fr_279 (zt_sub rfl) (zt_subF rfl) hI1 aj_refl (fun ov2 I3 J4 hI3 hJ4 => fr_ite (fr_bd fr_222 (zt_sub rfl) (zt_subF rfl) hI3 hJ4 (fun ov7 I8 J9 hI8 hJ9 => fr_ite (fr_bd fr_253 (zt_sub rfl) (zt_subF rfl) hI8 hJ9 (fun ov12 I13 J14 hI13 hJ14 => fr_ite (fr_gd (fr_some hI13 hJ14)) (fr_bd fr_259 (fun _ h => absurd h (List.not_mem_nil)) (fun _ h => absurd h (List.not_mem_nil)) hI13 hJ14 (fun ov17 I18 J19 hI18 hJ19 => fr_some hI18 hJ19)))) (fr_some hI8 hJ9))) (fr_some hI3 hJ4)))
theorem fr_280 {x1 : Int32} {x2 : Int32} {I : Nat → Nat → Int32} {J : Nat → Nat → Int64} : pm_fr [128, 139, 140, 144] [(127, 0), (127, 40), (127, 41), (127, 42)] I J (f280 x1 x2 I J) := by
  unfold f280
  exact fr_ltI (ag_w ag_refl (Or.inr (List.mem_of_elem_eq_true rfl))) (fun I1 hI1 => fr_bd fr_277 (zt_sub rfl) (zt_subF rfl) hI1 aj_refl (fun ov2 I3 J4 hI3 hJ4 => fr_ite (fr_bd fr_222 (zt_sub rfl) (zt_subF rfl) hI3 hJ4 (fun ov7 I8 J9 hI8 hJ9 => fr_ite (fr_bd fr_253 (zt_sub rfl) (zt_subF rfl) hI8 hJ9 (fun ov12 I13 J14 hI13 hJ14 => fr_bd fr_264 (zt_sub rfl) (fun _ h => absurd h (List.not_mem_nil)) hI13 hJ14 (fun ov16 I17 J18 hI17 hJ18 => fr_some hI17 hJ18))) (fr_some hI8 hJ9))) (fr_some hI3 hJ4)))
theorem fr_281 {x1 : Int32} {I : Nat → Nat → Int32} {J : Nat → Nat → Int64} : pm_fr [128, 139, 140, 144] [(127, 0), (127, 40), (127, 41), (127, 42)] I J (f281 x1 I J) := by
  unfold f281
  exact fr_ltI (ag_w ag_refl (Or.inr (List.mem_of_elem_eq_true rfl))) (fun I1 hI1 => fr_bd fr_277 (zt_sub rfl) (zt_subF rfl) hI1 aj_refl (fun ov2 I3 J4 hI3 hJ4 => fr_ite (fr_bd fr_253 (zt_sub rfl) (zt_subF rfl) hI3 hJ4 (fun ov7 I8 J9 hI8 hJ9 => fr_bd fr_263 (zt_sub rfl) (fun _ h => absurd h (List.not_mem_nil)) hI8 hJ9 (fun ov11 I12 J13 hI12 hJ13 => fr_some hI12 hJ13))) (fr_some hI3 hJ4)))
theorem fr_282 {x1 : Int32} {x2 : Int32} {x3 : Int32} {x4 : Int32} {x5 : Int32} {x6 : Int32} {I : Nat → Nat → Int32} {J : Nat → Nat → Int64} : pm_fr [128, 139, 140] [(127, 0)] I J (f282 x1 x2 x3 x4 x5 x6 I J) := by
  unfold f282
  exact fr_ltI (ag_w ag_refl (Or.inr (List.mem_of_elem_eq_true rfl))) (fun I1 hI1 => fr_ite (fr_ite (fr_ite (fr_ite (fr_ite (fr_ite (fr_bd fr_222 (zt_sub rfl) (fun _ h => h) hI1 aj_refl (fun ov158 I159 J160 hI159 hJ160 => fr_ite (fr_gd (fr_ltI (ag_w hI159 (Or.inl (List.mem_of_elem_eq_true rfl))) (fun I164 hI164 => fr_gd (fr_ltI (ag_w hI164 (Or.inl (List.mem_of_elem_eq_true rfl))) (fun I166 hI166 => fr_gd (fr_ltI (ag_w hI166 (Or.inl (List.mem_of_elem_eq_true rfl))) (fun I168 hI168 => fr_gd (fr_ltI (ag_w hI168 (Or.inl (List.mem_of_elem_eq_true rfl))) (fun I170 hI170 => fr_gd (fr_ltI (ag_w hI170 (Or.inl (List.mem_of_elem_eq_true rfl))) (fun I172 hI172 => fr_gd (fr_ltI (ag_w hI172 (Or.inl (List.mem_of_elem_eq_true rfl))) (fun I174 hI174 => fr_gd (fr_ltI (ag_w hI174 (Or.inl (List.mem_of_elem_eq_true rfl))) (fun I176 hI176 => fr_gd (fr_ltI (ag_w hI176 (Or.inl (List.mem_of_elem_eq_true rfl))) (fun I178 hI178 => fr_bd fr_268 (zt_sub rfl) (fun _ h => absurd h (List.not_mem_nil)) hI178 hJ160 (fun ov179 I180 J181 hI180 hJ181 => fr_some hI180 hJ181)))))))))))))))))) (fr_some hI159 hJ160))) (fr_bd fr_222 (zt_sub rfl) (fun _ h => h) hI1 aj_refl (fun ov133 I134 J135 hI134 hJ135 => fr_ite (fr_gd (fr_ltI (ag_w hI134 (Or.inl (List.mem_of_elem_eq_true rfl))) (fun I139 hI139 => fr_gd (fr_ltI (ag_w hI139 (Or.inl (List.mem_of_elem_eq_true rfl))) (fun I141 hI141 => fr_gd (fr_ltI (ag_w hI141 (Or.inl (List.mem_of_elem_eq_true rfl))) (fun I143 hI143 => fr_gd (fr_ltI (ag_w hI143 (Or.inl (List.mem_of_elem_eq_true rfl))) (fun I145 hI145 => fr_gd (fr_ltI (ag_w hI145 (Or.inl (List.mem_of_elem_eq_true rfl))) (fun I147 hI147 => fr_gd (fr_ltI (ag_w hI147 (Or.inl (List.mem_of_elem_eq_true rfl))) (fun I149 hI149 => fr_gd (fr_ltI (ag_w hI149 (Or.inl (List.mem_of_elem_eq_true rfl))) (fun I151 hI151 => fr_gd (fr_ltI (ag_w hI151 (Or.inl (List.mem_of_elem_eq_true rfl))) (fun I153 hI153 => fr_bd fr_268 (zt_sub rfl) (fun _ h => absurd h (List.not_mem_nil)) hI153 hJ135 (fun ov154 I155 J156 hI155 hJ156 => fr_some hI155 hJ156)))))))))))))))))) (fr_some hI134 hJ135)))) (fr_bd fr_222 (zt_sub rfl) (fun _ h => h) hI1 aj_refl (fun ov107 I108 J109 hI108 hJ109 => fr_ite (fr_gd (fr_ltI (ag_w hI108 (Or.inl (List.mem_of_elem_eq_true rfl))) (fun I113 hI113 => fr_gd (fr_ltI (ag_w hI113 (Or.inl (List.mem_of_elem_eq_true rfl))) (fun I115 hI115 => fr_gd (fr_ltI (ag_w hI115 (Or.inl (List.mem_of_elem_eq_true rfl))) (fun I117 hI117 => fr_gd (fr_ltI (ag_w hI117 (Or.inl (List.mem_of_elem_eq_true rfl))) (fun I119 hI119 => fr_gd (fr_ltI (ag_w hI119 (Or.inl (List.mem_of_elem_eq_true rfl))) (fun I121 hI121 => fr_gd (fr_ltI (ag_w hI121 (Or.inl (List.mem_of_elem_eq_true rfl))) (fun I123 hI123 => fr_gd (fr_ltI (ag_w hI123 (Or.inl (List.mem_of_elem_eq_true rfl))) (fun I125 hI125 => fr_gd (fr_ltI (ag_w hI125 (Or.inl (List.mem_of_elem_eq_true rfl))) (fun I127 hI127 => fr_bd fr_268 (zt_sub rfl) (fun _ h => absurd h (List.not_mem_nil)) hI127 hJ109 (fun ov128 I129 J130 hI129 hJ130 => fr_some hI129 hJ130)))))))))))))))))) (fr_some hI108 hJ109)))) (fr_bd fr_222 (zt_sub rfl) (fun _ h => h) hI1 aj_refl (fun ov81 I82 J83 hI82 hJ83 => fr_ite (fr_gd (fr_ltI (ag_w hI82 (Or.inl (List.mem_of_elem_eq_true rfl))) (fun I87 hI87 => fr_gd (fr_ltI (ag_w hI87 (Or.inl (List.mem_of_elem_eq_true rfl))) (fun I89 hI89 => fr_gd (fr_ltI (ag_w hI89 (Or.inl (List.mem_of_elem_eq_true rfl))) (fun I91 hI91 => fr_gd (fr_ltI (ag_w hI91 (Or.inl (List.mem_of_elem_eq_true rfl))) (fun I93 hI93 => fr_gd (fr_ltI (ag_w hI93 (Or.inl (List.mem_of_elem_eq_true rfl))) (fun I95 hI95 => fr_gd (fr_ltI (ag_w hI95 (Or.inl (List.mem_of_elem_eq_true rfl))) (fun I97 hI97 => fr_gd (fr_ltI (ag_w hI97 (Or.inl (List.mem_of_elem_eq_true rfl))) (fun I99 hI99 => fr_gd (fr_ltI (ag_w hI99 (Or.inl (List.mem_of_elem_eq_true rfl))) (fun I101 hI101 => fr_bd fr_268 (zt_sub rfl) (fun _ h => absurd h (List.not_mem_nil)) hI101 hJ83 (fun ov102 I103 J104 hI103 hJ104 => fr_some hI103 hJ104)))))))))))))))))) (fr_some hI82 hJ83)))) (fr_bd fr_222 (zt_sub rfl) (fun _ h => h) hI1 aj_refl (fun ov55 I56 J57 hI56 hJ57 => fr_ite (fr_gd (fr_ltI (ag_w hI56 (Or.inl (List.mem_of_elem_eq_true rfl))) (fun I61 hI61 => fr_gd (fr_ltI (ag_w hI61 (Or.inl (List.mem_of_elem_eq_true rfl))) (fun I63 hI63 => fr_gd (fr_ltI (ag_w hI63 (Or.inl (List.mem_of_elem_eq_true rfl))) (fun I65 hI65 => fr_gd (fr_ltI (ag_w hI65 (Or.inl (List.mem_of_elem_eq_true rfl))) (fun I67 hI67 => fr_gd (fr_ltI (ag_w hI67 (Or.inl (List.mem_of_elem_eq_true rfl))) (fun I69 hI69 => fr_gd (fr_ltI (ag_w hI69 (Or.inl (List.mem_of_elem_eq_true rfl))) (fun I71 hI71 => fr_gd (fr_ltI (ag_w hI71 (Or.inl (List.mem_of_elem_eq_true rfl))) (fun I73 hI73 => fr_gd (fr_ltI (ag_w hI73 (Or.inl (List.mem_of_elem_eq_true rfl))) (fun I75 hI75 => fr_bd fr_268 (zt_sub rfl) (fun _ h => absurd h (List.not_mem_nil)) hI75 hJ57 (fun ov76 I77 J78 hI77 hJ78 => fr_some hI77 hJ78)))))))))))))))))) (fr_some hI56 hJ57)))) (fr_bd fr_222 (zt_sub rfl) (fun _ h => h) hI1 aj_refl (fun ov29 I30 J31 hI30 hJ31 => fr_ite (fr_gd (fr_ltI (ag_w hI30 (Or.inl (List.mem_of_elem_eq_true rfl))) (fun I35 hI35 => fr_gd (fr_ltI (ag_w hI35 (Or.inl (List.mem_of_elem_eq_true rfl))) (fun I37 hI37 => fr_gd (fr_ltI (ag_w hI37 (Or.inl (List.mem_of_elem_eq_true rfl))) (fun I39 hI39 => fr_gd (fr_ltI (ag_w hI39 (Or.inl (List.mem_of_elem_eq_true rfl))) (fun I41 hI41 => fr_gd (fr_ltI (ag_w hI41 (Or.inl (List.mem_of_elem_eq_true rfl))) (fun I43 hI43 => fr_gd (fr_ltI (ag_w hI43 (Or.inl (List.mem_of_elem_eq_true rfl))) (fun I45 hI45 => fr_gd (fr_ltI (ag_w hI45 (Or.inl (List.mem_of_elem_eq_true rfl))) (fun I47 hI47 => fr_gd (fr_ltI (ag_w hI47 (Or.inl (List.mem_of_elem_eq_true rfl))) (fun I49 hI49 => fr_bd fr_268 (zt_sub rfl) (fun _ h => absurd h (List.not_mem_nil)) hI49 hJ31 (fun ov50 I51 J52 hI51 hJ52 => fr_some hI51 hJ52)))))))))))))))))) (fr_some hI30 hJ31)))) (fr_bd fr_222 (zt_sub rfl) (fun _ h => h) hI1 aj_refl (fun ov3 I4 J5 hI4 hJ5 => fr_ite (fr_gd (fr_ltI (ag_w hI4 (Or.inl (List.mem_of_elem_eq_true rfl))) (fun I9 hI9 => fr_gd (fr_ltI (ag_w hI9 (Or.inl (List.mem_of_elem_eq_true rfl))) (fun I11 hI11 => fr_gd (fr_ltI (ag_w hI11 (Or.inl (List.mem_of_elem_eq_true rfl))) (fun I13 hI13 => fr_gd (fr_ltI (ag_w hI13 (Or.inl (List.mem_of_elem_eq_true rfl))) (fun I15 hI15 => fr_gd (fr_ltI (ag_w hI15 (Or.inl (List.mem_of_elem_eq_true rfl))) (fun I17 hI17 => fr_gd (fr_ltI (ag_w hI17 (Or.inl (List.mem_of_elem_eq_true rfl))) (fun I19 hI19 => fr_gd (fr_ltI (ag_w hI19 (Or.inl (List.mem_of_elem_eq_true rfl))) (fun I21 hI21 => fr_gd (fr_ltI (ag_w hI21 (Or.inl (List.mem_of_elem_eq_true rfl))) (fun I23 hI23 => fr_bd fr_268 (zt_sub rfl) (fun _ h => absurd h (List.not_mem_nil)) hI23 hJ5 (fun ov24 I25 J26 hI25 hJ26 => fr_some hI25 hJ26)))))))))))))))))) (fr_some hI4 hJ5))))
theorem fr_283_13  : ∀ (fu : Nat) (y1 : Int32) (y2 : Int32) (I : (Nat → Nat → Int32)) (J : (Nat → Nat → Int64)), pm_fr [139, 140] [] I J (f283_13 fu y1 y2 I J) := by
  intro fu
  induction fu with
  | zero => intros; intro _ _ _ h; cases h
  | succ fu ih =>
    intro y1 y2 I J
    rw [f283_13]
    exact fr_ite (fr_gd (fr_ite (fr_gd (fr_bd fr_264 (fun _ h => h) (fun _ h => h) ag_refl aj_refl (fun ov5 I6 J7 hI6 hJ7 => fr_ite (fr_tl (ih _ _ _ _) (fun _ h => h) (fun _ h => h) hI6 hJ7) (fr_tl (ih _ _ _ _) (fun _ h => h) (fun _ h => h) hI6 hJ7)))) (fr_tl (ih _ _ _ _) (fun _ h => h) (fun _ h => h) ag_refl aj_refl))) (fr_some ag_refl aj_refl)
theorem fr_283 {I : Nat → Nat → Int32} {J : Nat → Nat → Int64} : pm_fr [139, 140, 144] [(127, 0), (127, 40), (127, 41), (127, 42)] I J (f283 I J) := by
  unfold f283
  exact fr_ltI (ag_w ag_refl (Or.inr (List.mem_of_elem_eq_true rfl))) (fun I1 hI1 => fr_bd fr_253 (zt_sub rfl) (zt_subF rfl) hI1 aj_refl (fun ov2 I3 J4 hI3 hJ4 => fr_tl (fr_283_13 _ _ _ _ _) (zt_sub rfl) (fun _ h => absurd h (List.not_mem_nil)) hI3 hJ4))
theorem fr_285_25  : ∀ (fu : Nat) (y1 : Int32) (y3 : Int32) (I : (Nat → Nat → Int32)) (J : (Nat → Nat → Int64)), pm_fr [139, 140, 144] [(127, 41), (127, 42)] I J (f285_25 fu y1 y3 I J) := by
  intro fu
  induction fu with
  | zero => intros; intro _ _ _ h; cases h
  | succ fu ih =>
    intro y1 y3 I J
    rw [f285_25]
    exact fr_ite (fr_some ag_refl aj_refl) (fr_bd fr_272 (fun _ h => h) (fun _ h => h) ag_refl aj_refl (fun ov2 I3 J4 hI3 hJ4 => fr_gd (fr_ite (fr_some hI3 hJ4) (fr_tl (ih _ _ _ _) (fun _ h => h) (fun _ h => h) hI3 hJ4))))
theorem fr_285 {x1 : Int32} {x2 : Int32} {I : Nat → Nat → Int32} {J : Nat → Nat → Int64} : pm_fr [139, 140, 144] [(127, 40), (127, 41), (127, 42)] I J (f285 x1 x2 I J) := by
  unfold f285
  exact fr_bd fr_253 (zt_sub rfl) (fun _ h => h) ag_refl aj_refl (fun ov1 I2 J3 hI2 hJ3 => fr_ltI (ag_w hI2 (Or.inr (List.mem_of_elem_eq_true rfl))) (fun I5 hI5 => fr_gd (fr_ite (fr_tl (fr_285_25 _ _ _ _ _) (fun _ h => h) (zt_subF rfl) hI5 hJ3) (fr_some hI5 hJ3))))
theorem fr_284 {x1 : Int32} {I : Nat → Nat → Int32} {J : Nat → Nat → Int64} : pm_fr [128, 139, 140, 144] [(127, 0), (127, 40), (127, 41), (127, 42)] I J (f284 x1 I J) := by
  unfold f284
  exact fr_ltI (ag_w ag_refl (Or.inr (List.mem_of_elem_eq_true rfl))) (fun I1 hI1 => fr_bd fr_277 (zt_sub rfl) (zt_subF rfl) hI1 aj_refl (fun ov2 I3 J4 hI3 hJ4 => fr_ite (fr_bd fr_285 (zt_sub rfl) (zt_subF rfl) hI3 hJ4 (fun ov7 I8 J9 hI8 hJ9 => fr_some hI8 hJ9)) (fr_some hI3 hJ4)))
theorem fr_286 {x1 : Int32} {I : Nat → Nat → Int32} {J : Nat → Nat → Int64} : pm_fr [128, 139, 140, 144] [(127, 0), (127, 40), (127, 41), (127, 42)] I J (f286 x1 I J) := by
  unfold f286
  exact fr_ltI (ag_w ag_refl (Or.inr (List.mem_of_elem_eq_true rfl))) (fun I1 hI1 => fr_bd fr_277 (zt_sub rfl) (zt_subF rfl) hI1 aj_refl (fun ov2 I3 J4 hI3 hJ4 => fr_ite (fr_bd fr_285 (zt_sub rfl) (zt_subF rfl) hI3 hJ4 (fun ov7 I8 J9 hI8 hJ9 => fr_some hI8 hJ9)) (fr_some hI3 hJ4)))
theorem fr_287_47  : ∀ (fu : Nat) (y1 : Int32) (y2 : Int32) (y3 : Int32) (I : (Nat → Nat → Int32)) (J : (Nat → Nat → Int64)), pm_fr [139, 140, 144] [(127, 41), (127, 42)] I J (f287_47 fu y1 y2 y3 I J) := by
  intro fu
  induction fu with
  | zero => intros; intro _ _ _ h; cases h
  | succ fu ih =>
    intro y1 y2 y3 I J
    rw [f287_47]
    exact fr_ite (fr_bd fr_272 (fun _ h => h) (fun _ h => h) ag_refl aj_refl (fun ov8 I9 J10 hI9 hJ10 => fr_tl (ih _ _ _ _ _) (fun _ h => h) (fun _ h => h) hI9 hJ10)) (fr_ite (fr_bd fr_257 (fun _ h => absurd h (List.not_mem_nil)) (fun _ h => absurd h (List.not_mem_nil)) ag_refl aj_refl (fun ov4 I5 J6 hI5 hJ6 => fr_some hI5 hJ6)) (fr_ite (fr_some ag_refl aj_refl) (fr_some ag_refl aj_refl)))
theorem fr_287 {x1 : Int32} {x2 : Int32} {I : Nat → Nat → Int32} {J : Nat → Nat → Int64} : pm_fr [128, 139, 140, 144] [(127, 0), (127, 40), (127, 41), (127, 42)] I J (f287 x1 x2 I J) := by
  unfold f287
  exact fr_ltI (ag_w ag_refl (Or.inr (List.mem_of_elem_eq_true rfl))) (fun I1 hI1 => fr_ite (fr_ite (fr_bd fr_222 (zt_sub rfl) (zt_subF rfl) hI1 aj_refl (fun ov22 I23 J24 hI23 hJ24 => fr_ite (fr_bd fr_253 (zt_sub rfl) (zt_subF rfl) hI23 hJ24 (fun ov27 I28 J29 hI28 hJ29 => fr_tl (fr_287_47 _ _ _ _ _ _) (zt_sub rfl) (zt_subF rfl) hI28 hJ29)) (fr_some hI23 hJ24))) (fr_bd fr_222 (zt_sub rfl) (zt_subF rfl) hI1 aj_refl (fun ov13 I14 J15 hI14 hJ15 => fr_ite (fr_bd fr_253 (zt_sub rfl) (zt_subF rfl) hI14 hJ15 (fun ov18 I19 J20 hI19 hJ20 => fr_tl (fr_287_47 _ _ _ _ _ _) (zt_sub rfl) (zt_subF rfl) hI19 hJ20)) (fr_some hI14 hJ15)))) (fr_bd fr_222 (zt_sub rfl) (zt_subF rfl) hI1 aj_refl (fun ov3 I4 J5 hI4 hJ5 => fr_ite (fr_bd fr_253 (zt_sub rfl) (zt_subF rfl) hI4 hJ5 (fun ov8 I9 J10 hI9 hJ10 => fr_tl (fr_287_47 _ _ _ _ _ _) (zt_sub rfl) (zt_subF rfl) hI9 hJ10)) (fr_some hI4 hJ5))))
theorem fr_289 {x1 : Int32} {x2 : Int32} {I : Nat → Nat → Int32} {J : Nat → Nat → Int64} : pm_fr [139, 140] [] I J (f289 x1 x2 I J) := by
  unfold f289
  exact fr_gd (fr_bd fr_263 (fun _ h => h) (fun _ h => h) ag_refl aj_refl (fun ov2 I3 J4 hI3 hJ4 => fr_gd (fr_gd (fr_ite (fr_some hI3 hJ4) (fr_some hI3 hJ4)))))
theorem fr_288 {x1 : Int32} {x2 : Int32} {I : Nat → Nat → Int32} {J : Nat → Nat → Int64} : pm_fr [128, 139, 140, 144] [(127, 0), (127, 40), (127, 41), (127, 42)] I J (f288 x1 x2 I J) := by
  unfold f288
  exact fr_ltI (ag_w ag_refl (Or.inr (List.mem_of_elem_eq_true rfl))) (fun I1 hI1 => fr_bd fr_279 (zt_sub rfl) (zt_subF rfl) hI1 aj_refl (fun ov2 I3 J4 hI3 hJ4 => fr_ite (fr_bd fr_277 (zt_sub rfl) (zt_subF rfl) hI3 hJ4 (fun ov7 I8 J9 hI8 hJ9 => fr_ite (fr_bd fr_253 (zt_sub rfl) (zt_subF rfl) hI8 hJ9 (fun ov12 I13 J14 hI13 hJ14 => fr_bd fr_289 (zt_sub rfl) (fun _ h => absurd h (List.not_mem_nil)) hI13 hJ14 (fun ov16 I17 J18 hI17 hJ18 => fr_some hI17 hJ18))) (fr_some hI8 hJ9))) (fr_some hI3 hJ4)))
theorem fr_293_2  : ∀ (fu : Nat) (y1 : Int32) (y2 : Int32) (y3 : Int32) (I : (Nat → Nat → Int32)) (J : (Nat → Nat → Int64)), pm_fr [] [] I J (f293_2 fu y1 y2 y3 I J) := by
  intro fu
  induction fu with
  | zero => intros; intro _ _ _ h; cases h
  | succ fu ih =>
    intro y1 y2 y3 I J
    rw [f293_2]
    exact fr_ite (fr_bd fr_267 (fun _ h => h) (fun _ h => h) ag_refl aj_refl (fun ov5 I6 J7 hI6 hJ7 => fr_ite (fr_gd (fr_ite (fr_gd (fr_ite (fr_tl (ih _ _ _ _ _) (fun _ h => h) (fun _ h => h) hI6 hJ7) (fr_some hI6 hJ7))) (fr_tl (ih _ _ _ _ _) (fun _ h => h) (fun _ h => h) hI6 hJ7))) (fr_tl (ih _ _ _ _ _) (fun _ h => h) (fun _ h => h) hI6 hJ7))) (fr_ite (fr_some ag_refl aj_refl) (fr_gd (fr_ite (fr_some ag_refl aj_refl) (fr_some ag_refl aj_refl))))
theorem fr_293 {x1 : Int32} {x2 : Int32} {I : Nat → Nat → Int32} {J : Nat → Nat → Int64} : pm_fr [] [] I J (f293 x1 x2 I J) := by
  unfold f293
  exact fr_tl (fr_293_2 _ _ _ _ _ _) (fun _ h => h) (fun _ h => h) ag_refl aj_refl
theorem fr_g292  : ∀ (fu : Nat) (z1 : Nat) (z2 : Nat) (x1 : Int32) (x2 : Int32) (y3 : Int32) (I : (Nat → Nat → Int32)) (J : (Nat → Nat → Int64)), pm_fr [149, 150, 151] [(127, 50)] I J (g292 fu z1 z2 x1 x2 y3 I J) := by
  intro fu
  induction fu with
  | zero => intros; intro _ _ _ h; cases h
  | succ fu ih =>
    intro dep lab
    rcases dep with _ | dep
    · intros; intro _ _ _ h; cases h
    · rcases lab with _ | lab
      · intro x1 x2 _ I J
        rw [g292]
        exact fr_ite (fr_ite (fr_ltI (ag_w ag_refl (Or.inr (List.mem_of_elem_eq_true rfl))) (fun I11 hI11 => fr_bd fr_218 (by first | (simp; done) | (split <;> simp)) (fun _ h => absurd h (List.not_mem_nil)) hI11 aj_refl (fun ov12 I13 J14 hI13 hJ14 => fr_some hI13 hJ14))) (fr_some ag_refl aj_refl)) (fr_gd (fr_ite (fr_tl (ih _ _ _ _ _ _ _) (fun _ h => h) (fun _ h => h) ag_refl aj_refl) (fr_gd (fr_ltI (ag_w ag_refl (Or.inl (List.mem_of_elem_eq_true rfl))) (fun I5 hI5 => fr_bd (ih _ _ _ _ _ _ _) (fun _ h => h) (fun _ h => h) hI5 aj_refl (fun ov6 I7 J8 hI7 hJ8 => fr_some hI7 hJ8))))))
      · intro y1 y2 y3 I J
        rw [g292]
        exact fr_ite (fr_bd fr_293 (fun _ h => absurd h (List.not_mem_nil)) (fun _ h => absurd h (List.not_mem_nil)) ag_refl aj_refl (fun ov2 I3 J4 hI3 hJ4 => fr_ite (fr_gd (fr_ltI (ag_w hI3 (Or.inl (List.mem_of_elem_eq_true rfl))) (fun I8 hI8 => fr_ite (fr_ite (fr_bd (ih _ _ _ _ _ _ _) (fun _ h => h) (fun _ h => h) hI8 hJ4 (fun ov20 I21 J22 hI21 hJ22 => fr_ite (fr_tl (ih _ _ _ _ _ _ _) (fun _ h => h) (fun _ h => h) hI21 hJ22) (fr_gd (fr_gd (fr_ltI (ag_w hI21 (Or.inl (List.mem_of_elem_eq_true rfl))) (fun I27 hI27 => fr_tl (ih _ _ _ _ _ _ _) (fun _ h => h) (fun _ h => h) hI27 hJ22)))))) (fr_gd (fr_bd (ih _ _ _ _ _ _ _) (fun _ h => h) (fun _ h => h) hI8 hJ4 (fun ov12 I13 J14 hI13 hJ14 => fr_ite (fr_tl (ih _ _ _ _ _ _ _) (fun _ h => h) (fun _ h => h) hI13 hJ14) (fr_gd (fr_gd (fr_ltI (ag_w hI13 (Or.inl (List.mem_of_elem_eq_true rfl))) (fun I19 hI19 => fr_tl (ih _ _ _ _ _ _ _) (fun _ h => h) (fun _ h => h) hI19 hJ14)))))))) (fr_gd (fr_gd (fr_ltI (ag_w hI8 (Or.inl (List.mem_of_elem_eq_true rfl))) (fun I30 hI30 => fr_ite (fr_bd (ih _ _ _ _ _ _ _) (fun _ h => h) (fun _ h => h) hI30 hJ4 (fun ov41 I42 J43 hI42 hJ43 => fr_ite (fr_tl (ih _ _ _ _ _ _ _) (fun _ h => h) (fun _ h => h) hI42 hJ43) (fr_gd (fr_gd (fr_ltI (ag_w hI42 (Or.inl (List.mem_of_elem_eq_true rfl))) (fun I48 hI48 => fr_tl (ih _ _ _ _ _ _ _) (fun _ h => h) (fun _ h => h) hI48 hJ43)))))) (fr_gd (fr_bd (ih _ _ _ _ _ _ _) (fun _ h => h) (fun _ h => h) hI30 hJ4 (fun ov33 I34 J35 hI34 hJ35 => fr_ite (fr_tl (ih _ _ _ _ _ _ _) (fun _ h => h) (fun _ h => h) hI34 hJ35) (fr_gd (fr_gd (fr_ltI (ag_w hI34 (Or.inl (List.mem_of_elem_eq_true rfl))) (fun I40 hI40 => fr_tl (ih _ _ _ _ _ _ _) (fun _ h => h) (fun _ h => h) hI40 hJ35)))))))))))))) (fr_tl (ih _ _ _ _ _ _ _) (fun _ h => h) (fun _ h => h) hI3 hJ4))) (fr_some ag_refl aj_refl)
theorem fr_292 {x1 : Int32} {x2 : Int32} {I : Nat → Nat → Int32} {J : Nat → Nat → Int64} : pm_fr [149, 150, 151] [(127, 50)] I J (f292 x1 x2 I J) := by
  unfold f292
  exact fr_tl (fr_g292 _ _ _ _ _ _ _ _) (fun _ h => h) (fun _ h => h) ag_refl aj_refl
theorem fr_291_L  : ∀ (fu : Nat) (z1 : Nat) (y1 : Int32) (y2 : Int32) (I : (Nat → Nat → Int32)) (J : (Nat → Nat → Int64)), pm_fr [139, 140, 148, 149, 150, 151] [(127, 50)] I J (f291_L fu z1 y1 y2 I J) := by
  intro fu
  induction fu with
  | zero => intros; intro _ _ _ h; cases h
  | succ fu ih =>
    intro lab
    rcases lab with _ | lab
    · intro y1 _ I J
      rw [f291_L]
      exact fr_ite (fr_gd (fr_bd fr_259 (fun _ h => absurd h (List.not_mem_nil)) (fun _ h => absurd h (List.not_mem_nil)) ag_refl aj_refl (fun ov8 I9 J10 hI9 hJ10 => fr_gd (fr_ltI (ag_w hI9 (Or.inl (List.mem_of_elem_eq_true rfl))) (fun I13 hI13 => fr_tl (ih _ _ _ _ _) (fun _ h => h) (fun _ h => h) hI13 hJ10))))) (fr_ltI (ag_w ag_refl (Or.inr (List.mem_of_elem_eq_true rfl))) (fun I2 hI2 => fr_bd fr_292 (zt_sub rfl) (fun _ h => h) hI2 aj_refl (fun ov3 I4 J5 hI4 hJ5 => fr_some hI4 hJ5)))
    · intro y1 y2 I J
      rw [f291_L]
      exact fr_ite (fr_bd fr_289 (zt_sub rfl) (fun _ h => absurd h (List.not_mem_nil)) ag_refl aj_refl (fun ov15 I16 J17 hI16 hJ17 => fr_gd (fr_ltI (ag_w hI16 (Or.inl (List.mem_of_elem_eq_true rfl))) (fun I20 hI20 => fr_tl (ih _ _ _ _ _) (fun _ h => h) (fun _ h => h) hI20 hJ17)))) (fr_tl (ih _ _ _ _ _) (fun _ h => h) (fun _ h => h) ag_refl aj_refl)
theorem fr_291 {I : Nat → Nat → Int32} {J : Nat → Nat → Int64} : pm_fr [139, 140, 144, 148, 149, 150, 151] [(127, 40), (127, 41), (127, 42), (127, 50)] I J (f291 I J) := by
  unfold f291
  exact fr_bd fr_253 (zt_sub rfl) (zt_subF rfl) ag_refl aj_refl (fun ov1 I2 J3 hI2 hJ3 => fr_tl (fr_291_L _ _ _ _ _ _) (zt_sub rfl) (zt_subF rfl) hI2 hJ3)
theorem fr_290_39  : ∀ (fu : Nat) (y2 : Int32) (y3 : Int32) (I : (Nat → Nat → Int32)) (J : (Nat → Nat → Int64)), pm_fr [] [] I J (f290_39 fu y2 y3 I J) := by
  intro fu
  induction fu with
  | zero => intros; intro _ _ _ h; cases h
  | succ fu ih =>
    intro y2 y3 I J
    rw [f290_39]
    exact fr_ite (fr_gd (fr_ite (fr_tl (ih _ _ _ _) (fun _ h => h) (fun _ h => h) ag_refl aj_refl) (fr_tl (ih _ _ _ _) (fun _ h => h) (fun _ h => h) ag_refl aj_refl))) (fr_some ag_refl aj_refl)
theorem fr_290 {x1 : Int32} {I : Nat → Nat → Int32} {J : Nat → Nat → Int64} : pm_fr [128, 139, 140, 144, 148, 149, 150, 151] [(127, 0), (127, 40), (127, 41), (127, 42), (127, 50)] I J (f290 x1 I J) := by
  unfold f290
  exact fr_ltI (ag_w ag_refl (Or.inr (List.mem_of_elem_eq_true rfl))) (fun I1 hI1 => fr_bd fr_222 (zt_sub rfl) (zt_subF rfl) hI1 aj_refl (fun ov2 I3 J4 hI3 hJ4 => fr_ite (fr_bd fr_291 (zt_sub rfl) (zt_subF rfl) hI3 hJ4 (fun ov7 I8 J9 hI8 hJ9 => fr_ite (fr_some hI8 hJ9) (fr_tl (fr_290_39 _ _ _ _ _) (fun _ h => absurd h (List.not_mem_nil)) (fun _ h => absurd h (List.not_mem_nil)) hI8 hJ9))) (fr_some hI3 hJ4)))
theorem fr_294 {x1 : Int32} {I : Nat → Nat → Int32} {J : Nat → Nat → Int64} : pm_fr [128, 139, 140, 144, 148, 149, 150, 151] [(127, 0), (127, 40), (127, 41), (127, 42), (127, 50)] I J (f294 x1 I J) := by
  unfold f294
  exact fr_ltI (ag_w ag_refl (Or.inr (List.mem_of_elem_eq_true rfl))) (fun I1 hI1 => fr_bd fr_277 (zt_sub rfl) (zt_subF rfl) hI1 aj_refl (fun ov2 I3 J4 hI3 hJ4 => fr_ite (fr_bd fr_291 (zt_sub rfl) (zt_subF rfl) hI3 hJ4 (fun ov7 I8 J9 hI8 hJ9 => fr_gd (fr_some hI8 hJ9))) (fr_some hI3 hJ4)))
theorem fr_295_L  : ∀ (fu : Nat) (z1 : Nat) (y1 : Int32) (y2 : Int32) (y3 : Int32) (I : (Nat → Nat → Int32)) (J : (Nat → Nat → Int64)), pm_fr [] [] I J (f295_L fu z1 y1 y2 y3 I J) := by
  intro fu
  induction fu with
  | zero => intros; intro _ _ _ h; cases h
  | succ fu ih =>
    intro lab
    rcases lab with _ | lab
    · intro y1 y2 _ I J
      rw [f295_L]
      exact fr_ite (fr_tl (ih _ _ _ _ _ _) (fun _ h => h) (fun _ h => h) ag_refl aj_refl) (fr_some ag_refl aj_refl)
    · intro y1 y2 y3 I J
      rw [f295_L]
      exact fr_ite (fr_bd fr_267 (fun _ h => h) (fun _ h => h) ag_refl aj_refl (fun ov3 I4 J5 hI4 hJ5 => fr_ite (fr_gd (fr_ite (fr_gd (fr_ite (fr_gd (fr_gd (fr_ite (fr_tl (ih _ _ _ _ _ _) (fun _ h => h) (fun _ h => h) hI4 hJ5) (fr_tl (ih _ _ _ _ _ _) (fun _ h => h) (fun _ h => h) hI4 hJ5)))) (fr_tl (ih _ _ _ _ _ _) (fun _ h => h) (fun _ h => h) hI4 hJ5))) (fr_tl (ih _ _ _ _ _ _) (fun _ h => h) (fun _ h => h) hI4 hJ5))) (fr_tl (ih _ _ _ _ _ _) (fun _ h => h) (fun _ h => h) hI4 hJ5))) (fr_tl (ih _ _ _ _ _ _) (fun _ h => h) (fun _ h => h) ag_refl aj_refl)
theorem fr_295 {I : Nat → Nat → Int32} {J : Nat → Nat → Int64} : pm_fr [] [(127, 0)] I J (f295 I J) := by
  unfold f295
  exact fr_ltI (ag_w ag_refl (Or.inr (List.mem_of_elem_eq_true rfl))) (fun I1 hI1 => fr_tl (fr_295_L _ _ _ _ _ _ _) (fun _ h => h) (fun _ h => absurd h (List.not_mem_nil)) hI1 aj_refl)
theorem fr_296_20  : ∀ (fu : Nat) (y1 : Int32) (y2 : Int32) (y3 : Int32) (I : (Nat → Nat → Int32)) (J : (Nat → Nat → Int64)), pm_fr [] [] I J (f296_20 fu y1 y2 y3 I J) := by
  intro fu
  induction fu with
  | zero => intros; intro _ _ _ h; cases h
  | succ fu ih =>
    intro y1 y2 y3 I J
    rw [f296_20]
    exact fr_ite (fr_bd fr_267 (fun _ h => h) (fun _ h => h) ag_refl aj_refl (fun ov2 I3 J4 hI3 hJ4 => fr_ite (fr_tl (ih _ _ _ _ _) (fun _ h => h) (fun _ h => h) hI3 hJ4) (fr_tl (ih _ _ _ _ _) (fun _ h => h) (fun _ h => h) hI3 hJ4))) (fr_some ag_refl aj_refl)
theorem fr_296 {x1 : Int32} {I : Nat → Nat → Int32} {J : Nat → Nat → Int64} : pm_fr [128] [(127, 0)] I J (f296 x1 I J) := by
  unfold f296
  exact fr_ltI (ag_w ag_refl (Or.inr (List.mem_of_elem_eq_true rfl))) (fun I1 hI1 => fr_bd fr_277 (fun _ h => h) (fun _ h => h) hI1 aj_refl (fun ov2 I3 J4 hI3 hJ4 => fr_ite (fr_tl (fr_296_20 _ _ _ _ _ _) (fun _ h => absurd h (List.not_mem_nil)) (fun _ h => absurd h (List.not_mem_nil)) hI3 hJ4) (fr_some hI3 hJ4)))
theorem fr_297 {x1 : Int32} {I : Nat → Nat → Int32} {J : Nat → Nat → Int64} : pm_fr [128, 139, 140, 144] [(127, 0), (127, 40), (127, 41), (127, 42)] I J (f297 x1 I J) := by
  unfold f297
  exact fr_ltI (ag_w ag_refl (Or.inr (List.mem_of_elem_eq_true rfl))) (fun I1 hI1 => fr_bd fr_277 (zt_sub rfl) (zt_subF rfl) hI1 aj_refl (fun ov2 I3 J4 hI3 hJ4 => fr_ite (fr_bd fr_253 (zt_sub rfl) (zt_subF rfl) hI3 hJ4 (fun ov7 I8 J9 hI8 hJ9 => fr_gd (fr_ite (fr_some hI8 hJ9) (fr_bd fr_263 (zt_sub rfl) (fun _ h => absurd h (List.not_mem_nil)) hI8 hJ9 (fun ov13 I14 J15 hI14 hJ15 => fr_some hI14 hJ15))))) (fr_some hI3 hJ4)))
theorem fr_298 {x1 : Int32} {I : Nat → Nat → Int32} {J : Nat → Nat → Int64} : pm_fr [128, 139, 140, 144] [(127, 0), (127, 40), (127, 41), (127, 42)] I J (f298 x1 I J) := by
  unfold f298
  exact fr_ltI (ag_w ag_refl (Or.inr (List.mem_of_elem_eq_true rfl))) (fun I1 hI1 => fr_bd fr_277 (zt_sub rfl) (zt_subF rfl) hI1 aj_refl (fun ov2 I3 J4 hI3 hJ4 => fr_ite (fr_bd fr_253 (zt_sub rfl) (zt_subF rfl) hI3 hJ4 (fun ov7 I8 J9 hI8 hJ9 => fr_bd fr_262 (zt_sub rfl) (fun _ h => absurd h (List.not_mem_nil)) hI8 hJ9 (fun ov11 I12 J13 hI12 hJ13 => fr_some hI12 hJ13))) (fr_some hI3 hJ4)))
