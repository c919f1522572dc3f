/-! WOULD, HELD, PARTED -/
def pm_wp8 (y a t h l w : Int32) : Nat → Int32
  | 0 => y
  | 1 => a
  | 2 => t
  | 3 => h
  | 4 => nI 0
  | 5 => l
  | 6 => nI 0
  | 7 => w
  | _ => 0
section Wo
variable {I : Nat → Nat → Int32} {J : Nat → Nat → Int64} {r k : Nat}
theorem e52 {l : Nat} {kk : Nat → Nat} {x1 x2 x3 x4 x5 x6 : Int32} (hL : pm_CL 6 l kk I) (hw : pm_wf l kk) : ∃ I', f52 x1 x2 x3 x4 x5 x6 I J = some (pm_av l kk (pm_wp8 x1 x2 x3 x4 x5 x6), I', J) := by
  have key : ∀ S : Nat → Int32, (∀ j, j < 8 → S j = pm_wp8 x1 x2 x3 x4 x5 x6 j) → ∃ I', ((f18 6 (va_up I 12 S) J).bind (fun q : Int32 × (Nat → Nat → Int32) × (Nat → Nat → Int64) => some (q.1, q.2.1, q.2.2))) = some (pm_av l kk (pm_wp8 x1 x2 x3 x4 x5 x6), I', J) := by
    intro S hS
    have hL2 : pm_CL 6 l kk (va_up I 12 S) := CL_ag hL (va_up_ne _ _ (by omega)) (va_up_ne _ _ (by omega))
    obtain ⟨T, e⟩ := e18 (I := va_up I 12 S) (J := J) (a0 := 6) (by decide) hL2.1 hL2.2 hw (by rw [va_up_self]; exact hS)
    exact ⟨_, by rw [e]; rfl⟩
  unfold f52
  simp (disch := omega) only [zt_lit, zt_pw, pm_lt, w_va, va_upup, va_up_self]
  refine key _ ?_
  intro j hj
  have q : j = 0 ∨ j = 1 ∨ j = 2 ∨ j = 3 ∨ j = 4 ∨ j = 5 ∨ j = 6 ∨ j = 7 := by omega
  rcases q with rfl | rfl | rfl | rfl | rfl | rfl | rfl | rfl <;> simp [upd, pm_wp8]
theorem i_wd {x1 x2 x3 x4 x5 x6 : Nat} (h1 : 1 ≤ x1 ∧ x1 ≤ 9) (h2 : x2 ≤ 99) (h3 : x3 ≤ 5) (h4 : x4 ≤ 99) (h5 : x5 ≤ 1) (h6 : x6 ≤ 900) : f185 (nI x1) (nI x2) (nI x3) (nI x4) (nI x5) (nI x6) I J = (f52 (nI x1) (nI x2) (nI x3) (nI x4) (nI x5) (nI x6) I J).bind (fun q : Int32 × (Nat → Nat → Int32) × (Nat → Nat → Int64) => some (.inl q.1, q.2.1, q.2.2)) := by
  have e1 : ((1 : Int32)).toInt = 1 := by decide
  have e9 : ((9 : Int32)).toInt = 9 := by decide
  have e99 : ((99 : Int32)).toInt = 99 := by decide
  have e5 : ((5 : Int32)).toInt = 5 := by decide
  have e900 : ((900 : Int32)).toInt = 900 := by decide
  unfold f185
  rw [nd_g (x := nI x1) (by rw [nI_toInt (by omega), e1]; omega) (by rw [nI_toInt (by omega), e9]; omega)]
  rw [nd_g (x := nI x2) (by rw [nI_toInt (by omega)]; omega) (by rw [nI_toInt (by omega), e99]; omega)]
  rw [nd_g (x := nI x3) (by rw [nI_toInt (by omega)]; omega) (by rw [nI_toInt (by omega), e5]; omega)]
  rw [nd_g (x := nI x4) (by rw [nI_toInt (by omega)]; omega) (by rw [nI_toInt (by omega), e99]; omega)]
  have c : x5 = 0 ∨ x5 = 1 := by omega
  rcases c with rfl | rfl
  · rw [nd2_0 (x := nI 0) rfl, nd_g (x := nI x6) (by rw [nI_toInt (by omega)]; omega) (by rw [nI_toInt (by omega), e900]; omega)]
  · rw [nd2_1 (x := nI 1) rfl, nd_g (x := nI x6) (by rw [nI_toInt (by omega)]; omega) (by rw [nI_toInt (by omega), e900]; omega)]
theorem K12 {y1 y2 y3 y4 y5 y6 : Int32} (hRR : pm_RR r k I) : pm_KK r k (fun v b : Int32 => v = b) 1 1 (fun I J => f185 y1 y2 y3 y4 y5 y6 I J) (fun I J => f282 y1 y2 y3 y4 y5 y6 I J) I J := by
  obtain ⟨n, t, D, l0, k0, l1, k1, h⟩ := hRR
  obtain ⟨Ib, n2, n3, n4⟩ := il_e h
  have hC := h.1.1
  have e1 : ((1 : Int32)).toInt = 1 := by decide
  have e9 : ((9 : Int32)).toInt = 9 := by decide
  have e99 : ((99 : Int32)).toInt = 99 := by decide
  have e5 : ((5 : Int32)).toInt = 5 := by decide
  have e900 : ((900 : Int32)).toInt = 900 := by decide
  rcases tr2 y1 1 9 (by omega) with ⟨x1, a1, b1, rfl⟩ | hx
  rotate_left
  · have vb := fun I => v241b (x := y1) (a := 1) (b := 9) (I := I) (by omega) (by omega) (by omega)
    refine KK_2 (b := nI 0) (Ia := pm_w I 0 13 (I 0 13 + nI 1)) (Ib := Ib) ?_ (fun J' => ?_) n3 n4
    · unfold f185
      rw [nd_b (x := y1) (by rw [e1, e9]; omega)]
    · unfold f282
      simp only [pm_lt, zt_lit, vb, n2, zt_bind, Bool.false_eq_true, if_false]
  have u1 : ¬ (nI x1).toInt < ((1 : Int32)).toInt := by rw [nI_toInt (by omega), e1]; omega
  have u1' : ¬ ((9 : Int32)).toInt < (nI x1).toInt := by rw [nI_toInt (by omega), e9]; omega
  have g1 := fun I => v241g (p := x1) (a := 1) (b := 9) (I := I) (by omega) (by omega) (by omega)
  rcases tr2 y2 0 99 (by omega) with ⟨x2, a2, b2, rfl⟩ | hx
  rotate_left
  · have vb := fun I => v241b (x := y2) (a := 0) (b := 99) (I := I) (by omega) (by omega) (by omega)
    refine KK_2 (b := nI 0) (Ia := pm_w I 0 13 (I 0 13 + nI 1)) (Ib := Ib) ?_ (fun J' => ?_) n3 n4
    · unfold f185
      rw [nd_g u1 u1', nd_b (x := y2) (by rw [e99]; omega)]
    · unfold f282
      simp only [pm_lt, zt_lit, g1, vb, n2, zt_bind, Bool.false_eq_true, if_true, if_false]
  have u2 : ¬ (nI x2).toInt < 0 := by rw [nI_toInt (by omega)]; omega
  have u2' : ¬ ((99 : Int32)).toInt < (nI x2).toInt := by rw [nI_toInt (by omega), e99]; omega
  have g2 := fun I => v241g (p := x2) (a := 0) (b := 99) (I := I) (by omega) (by omega) (by omega)
  rcases tr2 y3 0 5 (by omega) with ⟨x3, a3, b3, rfl⟩ | hx
  rotate_left
  · have vb := fun I => v241b (x := y3) (a := 0) (b := 5) (I := I) (by omega) (by omega) (by omega)
    refine KK_2 (b := nI 0) (Ia := pm_w I 0 13 (I 0 13 + nI 1)) (Ib := Ib) ?_ (fun J' => ?_) n3 n4
    · unfold f185
      rw [nd_g u1 u1', nd_g u2 u2', nd_b (x := y3) (by rw [e5]; omega)]
    · unfold f282
      simp only [pm_lt, zt_lit, g1, g2, vb, n2, zt_bind, Bool.false_eq_true, if_true, if_false]
  have u3 : ¬ (nI x3).toInt < 0 := by rw [nI_toInt (by omega)]; omega
  have u3' : ¬ ((5 : Int32)).toInt < (nI x3).toInt := by rw [nI_toInt (by omega), e5]; omega
  have g3 := fun I => v241g (p := x3) (a := 0) (b := 5) (I := I) (by omega) (by omega) (by omega)
  rcases tr2 y4 0 99 (by omega) with ⟨x4, a4, b4, rfl⟩ | hx
  rotate_left
  · have vb := fun I => v241b (x := y4) (a := 0) (b := 99) (I := I) (by omega) (by omega) (by omega)
    refine KK_2 (b := nI 0) (Ia := pm_w I 0 13 (I 0 13 + nI 1)) (Ib := Ib) ?_ (fun J' => ?_) n3 n4
    · unfold f185
      rw [nd_g u1 u1', nd_g u2 u2', nd_g u3 u3', nd_b (x := y4) (by rw [e99]; omega)]
    · unfold f282
      simp only [pm_lt, zt_lit, g1, g2, g3, vb, n2, zt_bind, Bool.false_eq_true, if_true, if_false]
  have u4 : ¬ (nI x4).toInt < 0 := by rw [nI_toInt (by omega)]; omega
  have u4' : ¬ ((99 : Int32)).toInt < (nI x4).toInt := by rw [nI_toInt (by omega), e99]; omega
  have g4 := fun I => v241g (p := x4) (a := 0) (b := 99) (I := I) (by omega) (by omega) (by omega)
  rcases tr2 y5 0 1 (by omega) with ⟨x5, a5, b5, rfl⟩ | hx
  rotate_left
  · have vb := fun I => v241b (x := y5) (a := 0) (b := 1) (I := I) (by omega) (by omega) (by omega)
    have q1 : ¬ y5 = 0 := fun e => by rw [e, zt_lit 0, nI_toInt (by omega)] at hx; omega
    have q2 : ¬ y5 = 1 := fun e => by rw [e, zt_lit 1, nI_toInt (by omega)] at hx; omega
    refine KK_2 (b := nI 0) (Ia := pm_w I 0 13 (I 0 13 + nI 1)) (Ib := Ib) ?_ (fun J' => ?_) n3 n4
    · unfold f185
      rw [nd_g u1 u1', nd_g u2 u2', nd_g u3 u3', nd_g u4 u4', nd2_b q1 q2]
    · unfold f282
      simp only [pm_lt, zt_lit, g1, g2, g3, g4, vb, n2, zt_bind, Bool.false_eq_true, if_true, if_false]
  have g5 := fun I => v241g (p := x5) (a := 0) (b := 1) (I := I) (by omega) (by omega) (by omega)
  rcases tr2 y6 0 900 (by omega) with ⟨x6, a6, b6, rfl⟩ | hx
  rotate_left
  · have vb := fun I => v241b (x := y6) (a := 0) (b := 900) (I := I) (by omega) (by omega) (by omega)
    refine KK_2 (b := nI 0) (Ia := pm_w I 0 13 (I 0 13 + nI 1)) (Ib := Ib) ?_ (fun J' => ?_) n3 n4
    · have c : x5 = 0 ∨ x5 = 1 := by omega
      unfold f185
      rw [nd_g u1 u1', nd_g u2 u2', nd_g u3 u3', nd_g u4 u4']
      rcases c with rfl | rfl
      · rw [nd2_0 (x := nI 0) rfl, nd_b (x := y6) (by rw [e900]; omega)]
      · rw [nd2_1 (x := nI 1) rfl, nd_b (x := y6) (by rw [e900]; omega)]
    · unfold f282
      simp only [pm_lt, zt_lit, g1, g2, g3, g4, g5, vb, n2, zt_bind, Bool.false_eq_true, if_true, if_false]
  have g6 := fun I => v241g (p := x6) (a := 0) (b := 900) (I := I) (by omega) (by omega) (by omega)
  obtain ⟨I1, q1⟩ := e52 (J := J) (x1 := nI x1) (x2 := nI x2) (x3 := nI x3) (x4 := nI x4) (x5 := nI x5) (x6 := nI x6) hC.2.2.1 hC.2.2.2.2.1
  have gg := fr_52 _ _ _ q1
  have R1 := R0_t0 (x := nI 0) (R0_ag h gg.1 rfl)
  have h2' : ∀ J, f222 (nI 1) (nI 1) (nI 1) (pm_w I1 127 0 (nI 0)) J = some (true, pm_w I1 127 0 (nI 0), J) := fun J => e222g (I := pm_w I1 127 0 (nI 0)) (J := J) (c := nI 1) (k := nI 1) zt_ws
  refine KK_v (v := pm_av l0 k0 (pm_wp8 (nI x1) (nI x2) (nI x3) (nI x4) (nI x5) (nI x6))) (I1 := I1) (J1 := J) ?_ aj_refl (fun J' => ?_)
  · show f185 (nI x1) (nI x2) (nI x3) (nI x4) (nI x5) (nI x6) I J = _
    rw [i_wd ⟨a1, b1⟩ b2 b3 b4 b5 b6, q1]
    rfl
  · have key : ∀ S : Nat → Int32, (∀ j, j < 8 → S j = pm_wp8 (nI x1) (nI x2) (nI x3) (nI x4) (nI x5) (nI x6) j) → ∃ I2, ((f268 (nI 0) (va_up (pm_w I1 127 0 (nI 0)) 140 S) J').bind (fun q : Int32 × (Nat → Nat → Int32) × (Nat → Nat → Int64) => some (q.1, q.2.1, q.2.2))) = some (pm_av l0 k0 (pm_wp8 (nI x1) (nI x2) (nI x3) (nI x4) (nI x5) (nI x6)), I2, J') ∧ I2 127 0 = nI 0 ∧ pm_RR r k I2 := by
      intro S hS
      obtain ⟨T, e⟩ := e268 (I := va_up (pm_w I1 127 0 (nI 0)) 140 S) (J := J') (w := 0) (by omega) (ML_up R1.1.2.1.2.2.1 (by omega)) R1.1.2.1.2.2.2.2.1 (by rw [va_up_self]; exact hS)
      have gz : pm_ag [139, 140] [] (pm_w I1 127 0 (nI 0)) (va_up (va_up (pm_w I1 127 0 (nI 0)) 140 S) 139 T) := ag_up (ag_up ag_refl (by simp)) (by simp)
      refine ⟨_, by rw [e]; rfl, ?_, R0_R (R0_ag R1 gz rfl)⟩
      rw [gz 127 0 (by decide) (by simp), zt_ws]
    show ∃ I2, f282 (nI x1) (nI x2) (nI x3) (nI x4) (nI x5) (nI x6) I1 J' = _ ∧ _
    unfold f282
    have w140 : ∀ (M : Nat → Nat → Int32) (f : Nat) (v : Int32), pm_w M 140 f v = va_up M 140 (upd (M 140) f v) := fun _ _ _ => rfl
    simp (disch := omega) only [pm_lt, zt_lit, g1, g2, g3, g4, g5, g6, h2', zt_bind, if_true, zt_in, zt_gd, nI_clamp, w140, va_upup, va_up_self]
    refine key _ ?_
    intro j hj
    have q : j = 0 ∨ j = 1 ∨ j = 2 ∨ j = 3 ∨ j = 4 ∨ j = 5 ∨ j = 6 ∨ j = 7 := by omega
    rcases q with rfl | rfl | rfl | rfl | rfl | rfl | rfl | rfl <;> simp [upd, pm_wp8]
end Wo
