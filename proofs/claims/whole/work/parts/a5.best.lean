/-! K18 best, K19 bestFor -/
section Bd8
variable {I : Nat → Nat → Int32} {J : Nat → Nat → Int64} {r k : Nat}
theorem K18 {x : Int32} {t1 : Nat} (hRR : pm_RR r k I) : pm_KK r k (fun v b : Int32 => v = b) t1 1 (fun I J => f190 r x I J) (fun I J => f290 x I J) I J := by
  obtain ⟨n, t, D, l0, k0, l1, k1, h⟩ := hRR
  obtain ⟨Ib, n2, n3, n4⟩ := il_e h
  have hC := h.1.1
  have n8 := hC.1.2.2.2.2.1
  have t5 := hC.1.2.2.2.2.2.1
  have n2' : ∀ J', f222 0 1 1 (pm_w (pm_w I 0 13 (I 0 13 + nI 1)) 127 0 0) J' = some (false, Ib, J') := n2
  rcases tr2 x 0 1 (by omega) with ⟨a, _, ha, rfl⟩ | hx
  rotate_left
  · have vb' : v241 x 0 1 (pm_w (pm_w I 0 13 (I 0 13 + nI 1)) 127 0 0) = false := v241b (x := x) (a := 0) (b := 1) (by omega) (by omega) (by omega)
    refine KK_2 (b := 0) (Ia := pm_w I 0 13 (I 0 13 + nI 1)) (Ib := Ib) ?_ (fun J' => ?_) n3 n4
    · unfold f190
      rw [if_neg (fun y => by rw [y] at hx; revert hx; decide), if_neg (fun y => by rw [y] at hx; revert hx; decide), e174b, zt_xr]
    · unfold f290
      rw [pm_lt_eq, vb', show pm_bi false = 0 from rfl, n2', zt_bind]
      show (if false = true then _ else _) = _
      rw [if_neg (by decide)]
  obtain ⟨u1, u2⟩ := ut_lt (D := D) (w := I 5) n
  obtain ⟨T, y, b1, b2, b3⟩ := Bw_V (sz := pm_uz D (I 5) n) (gn := pm_ug D (I 5) (pm_gN l0 k0 D n (I 5)) n) t5 (pm_ut D (I 5) n).2 0 (pm_xr D (I 5) n) (by omega)
  have hi := h.1.2.2.1.2
  obtain ⟨I1, J1, e1, c1, c2, c3, c4, y5⟩ := e63 (J := J) hC rfl hi b1
  have g1 := fr_63 _ _ _ e1
  have R1 := R0_t0 (x := nI 0) (R0_ag h g1.1 rfl)
  have i5 : I1 5 = I 5 := ag_cell g1.1 (by decide) (by intro f; simp)
  have hs : pm_ms n ((pm_w I1 127 0 (nI 0)) 143) (I 5) := by
    have := R1.1.2.2.1.1
    rw [show (pm_w I1 127 0 (nI 0)) 5 = I1 5 from zt_wc (by decide), i5] at this
    exact this
  have gb := fun I => v241g (p := a) (a := 0) (b := 1) (I := I) (by omega) ha (by omega)
  obtain ⟨V, hV⟩ : ∃ V : Int32, V = if nI a = 0 then nI T else nI (pm_cnt (fun q => decide ((if pm_ash (I 5) q = true then y ((pm_ut D (I 5) n).1 q) else 0) ≠ 0)) n) := ⟨_, rfl⟩
  refine KK_v (v := V) (I1 := I1) (J1 := J1) ?_ g1.2 (fun J' => ?_)
  · have a2 : nI a = 0 ∨ nI a = 1 := by
      have : a = 0 ∨ a = 1 := by omega
      rcases this with rfl | rfl
      · exact .inl rfl
      · exact .inr rfl
    have go : (f63 r I J).bind (fun (ov7, I8, J9) => (if nI a = 0 then some (Sum.inl (I8 104 10), I8, J9) else some (Sum.inl (I8 104 11), I8, J9))) = (some (Sum.inl V, I1, J1) : Option ((Int32 ⊕ Nat) × (Nat → Nat → Int32) × (Nat → Nat → Int64))) := by
      rw [e1, zt_bind]
      dsimp only
      rw [c1, c2, pl_eq, hV]
      by_cases z : nI a = 0
      · rw [if_pos z, if_pos z]
      · rw [if_neg z, if_neg z]
    unfold f190
    rcases a2 with z | z
    · rw [if_pos z, e174g, zt_xl]
      exact go
    · rw [if_neg (show ¬ nI a = 0 by rw [z]; decide), if_pos z, e174g, zt_xl]
      exact go
  · obtain ⟨I2, e2, q1, q2⟩ := e291 (J := J') R1.1.2.1 hs hi b1
    have g2 := fr_291 _ _ _ e2
    have R2 := R0_ag R1 g2.1 rfl
    have h0 : I2 127 0 = nI 0 := by rw [g2.1 127 0 (by decide) (by decide), zt_ws]
    refine ⟨I2, ?_, h0, R0_R R2⟩
    have gg : v241 (nI a) 0 1 (pm_w I1 127 0 0) = true := gb _
    unfold f290
    rw [pm_lt_eq, gg, e222g (I := pm_w I1 127 0 0) zt_ws, zt_bind]
    dsimp only
    rw [if_pos rfl, show pm_w I1 127 0 0 = pm_w I1 127 0 (nI 0) from rfl, e2, zt_bind]
    dsimp only
    rw [q1, hV]
    by_cases z : nI a = 0
    · rw [if_pos z, if_pos z]
    · rw [if_neg z, if_neg z]
      have l := l290 (J := J') (v := fun q => if pm_ash (I 5) q = true then y ((pm_ut D (I 5) n).1 q) else 0) n8 R2.1.2.1.1.1 (fun q hq => ⟨by
        split
        · exact y5 _
        · omega, q2 q hq⟩) n 0 pm_FU (by omega) (by unfold pm_FU; omega)
      rw [nI_0, show pm_cnt (fun q => decide ((if pm_ash (I 5) q = true then y ((pm_ut D (I 5) n).1 q) else 0) ≠ 0)) 0 = 0 from rfl, nI_0] at l
      exact l
theorem K19 {x : Int32} {t2 : Nat} (hRR : pm_RR r k I) : pm_KK r k (fun v b : Int32 => v = b) 1 t2 (fun I J => f191 r x I J) (fun I J => f294 x I J) I J := by
  obtain ⟨n, t, D, l0, k0, l1, k1, h⟩ := hRR
  have hC := h.1.1
  have n8 := hC.1.2.2.2.2.1
  have t5 := hC.1.2.2.2.2.2.1
  rcases tr (x := x) (n := n) (by omega) with ⟨p, hp, rfl⟩ | hx
  rotate_left
  · obtain ⟨Ia, Ib, n1, n2, n3, n4⟩ := no_sN h hx
    refine KK_1 (b := 0) (Ia := Ia) (Ib := Ib) ?_ (fun J' => ?_) n3 n4
    · unfold f191
      rw [n1, zt_xr]
    · have n2' : ∀ J', f277 x 1 (pm_w Ia 127 0 0) J' = some (false, Ib, J') := n2
      unfold f294
      rw [pm_lt_eq, n2', zt_bind]
      show (if false = true then _ else _) = _
      rw [if_neg (by decide)]
  obtain ⟨u1, u2⟩ := ut_lt (D := D) (w := I 5) n
  obtain ⟨T, y, b1, b2, b3⟩ := Bw_V (sz := pm_uz D (I 5) n) (gn := pm_ug D (I 5) (pm_gN l0 k0 D n (I 5)) n) t5 (pm_ut D (I 5) n).2 0 (pm_xr D (I 5) n) (by omega)
  have hi := h.1.2.2.1.2
  obtain ⟨I1, J1, e1, c1, c2, c3, c4, y5⟩ := e63 (J := J) hC rfl hi b1
  have g1 := fr_63 _ _ _ e1
  have R1 := R0_t0 (x := nI 0) (R0_ag h g1.1 rfl)
  have i5 : I1 5 = I 5 := ag_cell g1.1 (by decide) (by intro f; simp)
  have hs : pm_ms n ((pm_w I1 127 0 (nI 0)) 143) (I 5) := by
    have := R1.1.2.2.1.1
    rw [show (pm_w I1 127 0 (nI 0)) 5 = I1 5 from zt_wc (by decide), i5] at this
    exact this
  have eIm : ∀ m : Nat, m < 6 → nI m - 1 = pm_eI m := by decide
  have cl : v74 (I1 106 p) I1 = pm_eI (if pm_ash (I 5) p = true then y ((pm_ut D (I 5) n).1 p) else 0) := by
    rw [c4 p hp]
    by_cases a : pm_ash (I 5) p = true
    · rw [if_pos a, if_pos a, e74 (U := (pm_ut D (I 5) n).2) (by omega) (u2 p hp a) y5 c3]
      have := y5 ((pm_ut D (I 5) n).1 p)
      exact eIm _ (by omega)
    · rw [if_neg a, if_neg a]
      unfold v74
      rw [if_pos (by decide)]
      rfl
  refine KK_v (v := pm_eI (if pm_ash (I 5) p = true then y ((pm_ut D (I 5) n).1 p) else 0)) (I1 := I1) (J1 := J1) ?_ g1.2 (fun J' => ?_)
  · unfold f191
    rw [e180g hp n8 hC.1.2.1, zt_xl, e1, zt_bind]
    dsimp only
    unfold f77
    rw [nI_toInt (by omega), nI_toInt (by omega), if_neg (by omega), if_pos (by omega), zt_in (show p < 8 by omega) (by omega), zt_gd, nI_clamp (by omega), cl, zt_bind]
  · obtain ⟨I2, e2, q1, q2⟩ := e291 (J := J') R1.1.2.1 hs hi b1
    have g2 := fr_291 _ _ _ e2
    have R2 := R0_ag R1 g2.1 rfl
    have h0 : I2 127 0 = nI 0 := by rw [g2.1 127 0 (by decide) (by decide), zt_ws]
    refine ⟨I2, ?_, h0, R0_R R2⟩
    have hg := e277g (J := J') (c := 1) hp n8 R1.1.2.1.1.1 zt_ws
    unfold f294
    rw [pm_lt_eq, show pm_w I1 127 0 0 = pm_w I1 127 0 (nI 0) from rfl, hg, zt_bind]
    dsimp only
    rw [if_pos rfl, e2, zt_bind]
    dsimp only
    rw [zt_in (show p < 8 by omega) (by omega), zt_gd, nI_clamp (by omega), q2 p hp]
end Bd8
