/-! THE CALLS THAT THROW ONE THING ONLY -/
section Kg
variable {I : Nat → Nat → Int32} {J : Nat → Nat → Int64} {r k : Nat}
theorem K7g {t9 : Nat} {x : Int32} (hRR : pm_RR r k I) : pm_KK r k (fun v b : Int32 => v = b) t9 1 (fun I J => f178 r k x I J) (fun I J => f275 x I J) I J := by
  obtain ⟨n, t, D, l0, k0, l1, k1, h⟩ := hRR
  have hC := h.1.1
  have h8 := hC.1.2.2.2.2.1
  rcases tr (x := x) (n := 11) (by omega) with ⟨q, hq, rfl⟩ | hy
  · have R1 := R0_t0 (x := nI 0) h
    obtain ⟨b, hb, b1, b2, _⟩ := h.2.1.2
    have e1 := fun x => e36 (J := J) (x := x) hC.1.2.1 h8
    have a1 := hC.1.2.1
    have a2 := hC.1.2.2.1
    have a3 := hC.1.2.2.2.1
    have h2 := fun c k J => e222g (I := pm_w I 127 0 (nI 0)) (J := J) (c := c) (k := k) zt_ws
    have h3 := v241g (p := q) (a := 0) (b := 10) (I := pm_w I 127 0 (nI 0)) (by omega) (by omega) (by omega)
    have z : q = 0 ∨ q = 1 ∨ q = 2 ∨ q = 3 ∨ q = 4 ∨ q = 5 ∨ q = 6 ∨ q = 7 ∨ q = 8 ∨ q = 9 ∨ q = 10 := by omega
    refine KK_v (v := pm_ld D n t b (I 5) (I 0 11) q) (I1 := I) (J1 := J) ?_ aj_refl (fun J' => ?_)
    · unfold f178 pm_ld
      rcases z with rfl | rfl | rfl | rfl | rfl | rfl | rfl | rfl | rfl | rfl | rfl <;> simp (disch := omega) only [zt_lit, zt_l0, zt_lt, zt_eq, if_neg, if_true, if_false, e174G, zt_xl, zt_at, a1, a2, a3, b1, e1, zt_bind, v107, v108, Nat.reduceEqDiff, Nat.reduceLT, Nat.reduceSub]
    · obtain ⟨I3, e3, s3, ru3, _, _, g3⟩ := e253 (I := pm_w I 127 0 (nI 0)) (J := J') R1.1.2.2.1.1
      have R3 := R0_ag R1 g3 rfl
      rw [zt_wc (by omega)] at s3
      have e4 := fun c => e257 (J := J') (x := nI c) R3.1.2.1.1.1 h8
      simp only [cn_ms h8 s3] at e4
      have d1 := R3.1.2.1.1.1
      have d2 := R3.1.2.1.1.2.1
      have d3 := R3.1.2.1.1.2.2.1
      have d4 : I3 127 45 = nI b := by rw [g3 127 45 (by decide) (by decide), zt_w2 (by omega)]; exact b2
      have d5 : I3 127 33 = I 0 11 := by rw [g3 127 33 (by decide) (by decide), zt_w2 (by omega)]; exact h.2.2.2.1.symm
      have d6 := s3.2.2.1
      have d7 := s3.2.2.2
      refine ⟨I3, ?_, ?_, R0_R R3⟩
      · unfold f275 pm_ld
        rcases z with rfl | rfl | rfl | rfl | rfl | rfl | rfl | rfl | rfl | rfl | rfl <;> simp (disch := omega) only [pm_lt, zt_lit, h2, h3, zt_bind, zt_l0, zt_lt, zt_eq, if_neg, if_pos, if_true, if_false, zt_mi, zt_in, zt_gd, nI_clamp, e3, e4, d1, d2, d3, d4, d5, d6, d7, Nat.reduceEqDiff, Nat.reduceLT, Nat.reduceSub]
      · rw [g3 127 0 (by decide) (by decide), zt_ws]
  · obtain ⟨Ia, Ib, n1, n0, n2, n3, n4⟩ := il_xN (c := 1) h (Or.inl rfl)
    have h3 := v241b (x := x) (a := 0) (b := 10) (I := pm_w Ia 127 0 (nI 0)) (by omega) (by omega) (by omega)
    refine KK_2 (b := nI 0) (Ia := Ia) (Ib := Ib) ?_ (fun J' => ?_) n3 n4
    · unfold f178
      rw [zt_lit 10, nI_toInt (by omega)]
      rcases hy with hy | hy
      · rw [if_pos hy, zt_lit 0, n1, zt_xr]
      · rw [if_neg (by omega), if_pos (by omega), zt_lit 0, n1, zt_xr]
    · unfold f275
      simp only [pm_lt, zt_lit, h3, n2, zt_bind, Bool.false_eq_true, if_false]
theorem K12g {t9 : Nat} {y1 y2 y3 y4 y5 y6 : Int32} (hRR : pm_RR r k I) : pm_KK r k (fun v b : Int32 => v = b) t9 1 (fun I J => f185 y1 y2 y3 y4 y5 y6 I J) (fun I J => f282 y1 y2 y3 y4 y5 y6 I J) I J := by
  obtain ⟨n, t, D, l0, k0, l1, k1, h⟩ := hRR
  obtain ⟨Ib, n2, n3, n4⟩ := il_e h
  have hC := h.1.1
  have e1 : ((1 : Int32)).toInt = 1 := by decide
  have e9 : ((9 : Int32)).toInt = 9 := by decide
  have e99 : ((99 : Int32)).toInt = 99 := by decide
  have e5 : ((5 : Int32)).toInt = 5 := by decide
  have e900 : ((900 : Int32)).toInt = 900 := by decide
  rcases tr2 y1 1 9 (by omega) with ⟨x1, a1, b1, rfl⟩ | hx
  rotate_left
  · have vb := fun I => v241b (x := y1) (a := 1) (b := 9) (I := I) (by omega) (by omega) (by omega)
    refine KK_2 (b := nI 0) (Ia := pm_w I 0 13 (I 0 13 + nI 1)) (Ib := Ib) ?_ (fun J' => ?_) n3 n4
    · unfold f185
      rw [nd_b (x := y1) (by rw [e1, e9]; omega)]
    · unfold f282
      simp only [pm_lt, zt_lit, vb, n2, zt_bind, Bool.false_eq_true, if_false]
  have u1 : ¬ (nI x1).toInt < ((1 : Int32)).toInt := by rw [nI_toInt (by omega), e1]; omega
  have u1' : ¬ ((9 : Int32)).toInt < (nI x1).toInt := by rw [nI_toInt (by omega), e9]; omega
  have g1 := fun I => v241g (p := x1) (a := 1) (b := 9) (I := I) (by omega) (by omega) (by omega)
  rcases tr2 y2 0 99 (by omega) with ⟨x2, a2, b2, rfl⟩ | hx
  rotate_left
  · have vb := fun I => v241b (x := y2) (a := 0) (b := 99) (I := I) (by omega) (by omega) (by omega)
    refine KK_2 (b := nI 0) (Ia := pm_w I 0 13 (I 0 13 + nI 1)) (Ib := Ib) ?_ (fun J' => ?_) n3 n4
    · unfold f185
      rw [nd_g u1 u1', nd_b (x := y2) (by rw [e99]; omega)]
    · unfold f282
      simp only [pm_lt, zt_lit, g1, vb, n2, zt_bind, Bool.false_eq_true, if_true, if_false]
  have u2 : ¬ (nI x2).toInt < 0 := by rw [nI_toInt (by omega)]; omega
  have u2' : ¬ ((99 : Int32)).toInt < (nI x2).toInt := by rw [nI_toInt (by omega), e99]; omega
  have g2 := fun I => v241g (p := x2) (a := 0) (b := 99) (I := I) (by omega) (by omega) (by omega)
  rcases tr2 y3 0 5 (by omega) with ⟨x3, a3, b3, rfl⟩ | hx
  rotate_left
  · have vb := fun I => v241b (x := y3) (a := 0) (b := 5) (I := I) (by omega) (by omega) (by omega)
    refine KK_2 (b := nI 0) (Ia := pm_w I 0 13 (I 0 13 + nI 1)) (Ib := Ib) ?_ (fun J' => ?_) n3 n4
    · unfold f185
      rw [nd_g u1 u1', nd_g u2 u2', nd_b (x := y3) (by rw [e5]; omega)]
    · unfold f282
      simp only [pm_lt, zt_lit, g1, g2, vb, n2, zt_bind, Bool.false_eq_true, if_true, if_false]
  have u3 : ¬ (nI x3).toInt < 0 := by rw [nI_toInt (by omega)]; omega
  have u3' : ¬ ((5 : Int32)).toInt < (nI x3).toInt := by rw [nI_toInt (by omega), e5]; omega
  have g3 := fun I => v241g (p := x3) (a := 0) (b := 5) (I := I) (by omega) (by omega) (by omega)
  rcases tr2 y4 0 99 (by omega) with ⟨x4, a4, b4, rfl⟩ | hx
  rotate_left
  · have vb := fun I => v241b (x := y4) (a := 0) (b := 99) (I := I) (by omega) (by omega) (by omega)
    refine KK_2 (b := nI 0) (Ia := pm_w I 0 13 (I 0 13 + nI 1)) (Ib := Ib) ?_ (fun J' => ?_) n3 n4
    · unfold f185
      rw [nd_g u1 u1', nd_g u2 u2', nd_g u3 u3', nd_b (x := y4) (by rw [e99]; omega)]
    · unfold f282
      simp only [pm_lt, zt_lit, g1, g2, g3, vb, n2, zt_bind, Bool.false_eq_true, if_true, if_false]
  have u4 : ¬ (nI x4).toInt < 0 := by rw [nI_toInt (by omega)]; omega
  have u4' : ¬ ((99 : Int32)).toInt < (nI x4).toInt := by rw [nI_toInt (by omega), e99]; omega
  have g4 := fun I => v241g (p := x4) (a := 0) (b := 99) (I := I) (by omega) (by omega) (by omega)
  rcases tr2 y5 0 1 (by omega) with ⟨x5, a5, b5, rfl⟩ | hx
  rotate_left
  · have vb := fun I => v241b (x := y5) (a := 0) (b := 1) (I := I) (by omega) (by omega) (by omega)
    have q1 : ¬ y5 = 0 := fun e => by rw [e, zt_lit 0, nI_toInt (by omega)] at hx; omega
    have q2 : ¬ y5 = 1 := fun e => by rw [e, zt_lit 1, nI_toInt (by omega)] at hx; omega
    refine KK_2 (b := nI 0) (Ia := pm_w I 0 13 (I 0 13 + nI 1)) (Ib := Ib) ?_ (fun J' => ?_) n3 n4
    · unfold f185
      rw [nd_g u1 u1', nd_g u2 u2', nd_g u3 u3', nd_g u4 u4', nd2_b q1 q2]
    · unfold f282
      simp only [pm_lt, zt_lit, g1, g2, g3, g4, vb, n2, zt_bind, Bool.false_eq_true, if_true, if_false]
  have g5 := fun I => v241g (p := x5) (a := 0) (b := 1) (I := I) (by omega) (by omega) (by omega)
  rcases tr2 y6 0 900 (by omega) with ⟨x6, a6, b6, rfl⟩ | hx
  rotate_left
  · have vb := fun I => v241b (x := y6) (a := 0) (b := 900) (I := I) (by omega) (by omega) (by omega)
    refine KK_2 (b := nI 0) (Ia := pm_w I 0 13 (I 0 13 + nI 1)) (Ib := Ib) ?_ (fun J' => ?_) n3 n4
    · have c : x5 = 0 ∨ x5 = 1 := by omega
      unfold f185
      rw [nd_g u1 u1', nd_g u2 u2', nd_g u3 u3', nd_g u4 u4']
      rcases c with rfl | rfl
      · rw [nd2_0 (x := nI 0) rfl, nd_b (x := y6) (by rw [e900]; omega)]
      · rw [nd2_1 (x := nI 1) rfl, nd_b (x := y6) (by rw [e900]; omega)]
    · unfold f282
      simp only [pm_lt, zt_lit, g1, g2, g3, g4, g5, vb, n2, zt_bind, Bool.false_eq_true, if_true, if_false]
  have g6 := fun I => v241g (p := x6) (a := 0) (b := 900) (I := I) (by omega) (by omega) (by omega)
  obtain ⟨I1, q1⟩ := e52 (J := J) (x1 := nI x1) (x2 := nI x2) (x3 := nI x3) (x4 := nI x4) (x5 := nI x5) (x6 := nI x6) hC.2.2.1 hC.2.2.2.2.1
  have gg := fr_52 _ _ _ q1
  have R1 := R0_t0 (x := nI 0) (R0_ag h gg.1 rfl)
  have h2' : ∀ J, f222 (nI 1) (nI 1) (nI 1) (pm_w I1 127 0 (nI 0)) J = some (true, pm_w I1 127 0 (nI 0), J) := fun J => e222g (I := pm_w I1 127 0 (nI 0)) (J := J) (c := nI 1) (k := nI 1) zt_ws
  refine KK_v (v := pm_av l0 k0 (pm_wp8 (nI x1) (nI x2) (nI x3) (nI x4) (nI x5) (nI x6))) (I1 := I1) (J1 := J) ?_ aj_refl (fun J' => ?_)
  · show f185 (nI x1) (nI x2) (nI x3) (nI x4) (nI x5) (nI x6) I J = _
    rw [i_wd ⟨a1, b1⟩ b2 b3 b4 b5 b6, q1]
    rfl
  · have key : ∀ S : Nat → Int32, (∀ j, j < 8 → S j = pm_wp8 (nI x1) (nI x2) (nI x3) (nI x4) (nI x5) (nI x6) j) → ∃ I2, ((f268 (nI 0) (va_up (pm_w I1 127 0 (nI 0)) 140 S) J').bind (fun q : Int32 × (Nat → Nat → Int32) × (Nat → Nat → Int64) => some (q.1, q.2.1, q.2.2))) = some (pm_av l0 k0 (pm_wp8 (nI x1) (nI x2) (nI x3) (nI x4) (nI x5) (nI x6)), I2, J') ∧ I2 127 0 = nI 0 ∧ pm_RR r k I2 := by
      intro S hS
      obtain ⟨T, e⟩ := e268 (I := va_up (pm_w I1 127 0 (nI 0)) 140 S) (J := J') (w := 0) (by omega) (ML_up R1.1.2.1.2.2.1 (by omega)) R1.1.2.1.2.2.2.2.1 (by rw [va_up_self]; exact hS)
      have gz : pm_ag [139, 140] [] (pm_w I1 127 0 (nI 0)) (va_up (va_up (pm_w I1 127 0 (nI 0)) 140 S) 139 T) := ag_up (ag_up ag_refl (by simp)) (by simp)
      refine ⟨_, by rw [e]; rfl, ?_, R0_R (R0_ag R1 gz rfl)⟩
      rw [gz 127 0 (by decide) (by simp), zt_ws]
    show ∃ I2, f282 (nI x1) (nI x2) (nI x3) (nI x4) (nI x5) (nI x6) I1 J' = _ ∧ _
    unfold f282
    have w140 : ∀ (M : Nat → Nat → Int32) (f : Nat) (v : Int32), pm_w M 140 f v = va_up M 140 (upd (M 140) f v) := fun _ _ _ => rfl
    simp (disch := omega) only [pm_lt, zt_lit, g1, g2, g3, g4, g5, g6, h2', zt_bind, if_true, zt_in, zt_gd, nI_clamp, w140, va_upup, va_up_self]
    refine key _ ?_
    intro j hj
    have q : j = 0 ∨ j = 1 ∨ j = 2 ∨ j = 3 ∨ j = 4 ∨ j = 5 ∨ j = 6 ∨ j = 7 := by omega
    rcases q with rfl | rfl | rfl | rfl | rfl | rfl | rfl | rfl <;> simp [upd, pm_wp8]
theorem K16g {t9 : Nat} {I : Nat → Nat → Int32} {x y : Int32} (hRR : pm_RR r k I) : pm_KK r k (fun v b : Int32 => v = b) t9 1 (fun I J => f188 r x y I J) (fun I J => f287 x y I J) I J := by
  obtain ⟨n, t, D, l0, k0, l1, k1, h⟩ := hRR
  obtain ⟨Ib, n2, n3, n4⟩ := il_e h
  have hC := h.1.1
  have h8 := hC.1.2.2.2.2.1
  have hi := h.1.2.2.1.2
  obtain ⟨wk, st, hwk, hst, e64, e65, hpp⟩ := id hi
  have e6 : ((600 : Int32)).toInt = 600 := by decide
  have e2 : ((2 : Int32)).toInt = 2 := by decide
  rcases tr2 x 0 600 (by omega) with ⟨m, _, hm, rfl⟩ | hx
  · have u1 : ¬ (nI m).toInt < 0 := by rw [nI_toInt (by omega)]; omega
    have u2 : ¬ ((600 : Int32)).toInt < (nI m).toInt := by rw [nI_toInt (by omega), e6]; omega
    have ga := fun I => v241g (p := m) (a := 0) (b := 600) (I := I) (by omega) (by omega) (by omega)
    rcases tr2 y 0 2 (by omega) with ⟨q, _, hq, rfl⟩ | hy
    · have gb := fun I => v241g (p := q) (a := 0) (b := 2) (I := I) (by omega) (by omega) (by omega)
      have hcn := cn_le (fun p => decide (I 5 p = nI 0)) n
      have hmul : pm_cnt (fun p => decide (I 5 p = nI 0)) n * m ≤ 8 * 600 := Nat.mul_le_mul (by omega) hm
      have cl : ∃ I1, f188 r (nI m) (nI q) I J = some (.inl (pm_ah l0 k0 D n st (I 5) m q), I1, J) ∧ pm_ag [8, 11, 12] [] I I1 := by
        obtain ⟨Ia, ea⟩ := e54 (J := J) hm hC
        obtain ⟨Ic, ec⟩ := e55 (J := J) hm hC
        unfold f188 pm_ah
        rw [nd_g u1 u2, nd_g (x := nI q) (by rw [nI_toInt (by omega)]; omega) (by rw [nI_toInt (by omega), e2]; omega)]
        have z : q = 0 ∨ q = 1 ∨ q = 2 := by omega
        rcases z with rfl | rfl | rfl
        · refine ⟨Ia, ?_, (fr_54 _ _ _ ea).1⟩
          rw [if_pos (by decide), ea, zt_bind]
          rfl
        · refine ⟨Ic, ?_, (fr_55 _ _ _ ec).1⟩
          rw [if_neg (by decide), if_pos (by decide), ec, zt_bind]
          rfl
        · refine ⟨I, ?_, ag_refl⟩
          rw [if_neg (by decide), if_neg (by decide), zt_lit 0, e36 hC.1.2.1 h8, zt_bind]
          show some (Sum.inl (pm_max (nI 0) (nI (pm_cnt (fun p => decide (I 5 p = nI 0)) n) * nI m - v108 I)), I, J) = _
          unfold v108
          rw [zt_lit 65, zt_at (by omega) (by omega), e65, pk_mul, maxs (by omega) (by omega)]
          rfl
      obtain ⟨I1, ecl, g1⟩ := cl
      have R1 := R0_t0 (x := 0) (R0_ag h g1 rfl)
      have i5 : I1 5 = I 5 := ag_cell g1 (by decide) (by intro f; simp)
      refine KK_v (v := pm_ah l0 k0 D n st (I 5) m q) (I1 := I1) (J1 := J) ecl aj_refl (fun J' => ?_)
      obtain ⟨I3, e3, s3, ru3, u41, u42, g3⟩ := e253 (I := pm_w I1 127 0 0) (J := J') R1.1.2.2.1.1
      have R3 := R0_ag R1 g3 rfl
      rw [zt_wc (by omega), i5] at s3
      obtain ⟨I4, e4⟩ := e287 (J := J') hm (show q < 3 by omega) hi hst e65 R3.1.2.1 ru3 u41 u42 s3
      have g4 := fr_287_47 _ _ _ _ _ _ _ _ _ e4
      refine ⟨I4, ?_, ?_, R0_R (R0_ag R3 g4.1 rfl)⟩
      · have hg : f222 1 1 1 (pm_w I1 127 0 0) J' = some (true, pm_w I1 127 0 0, J') := e222g (I := pm_w I1 127 0 0) (J := J') (c := 1) (k := 1) (by rw [zt_ws]; rfl)
        have ga' : v241 (nI m) 0 600 (pm_w I1 127 0 0) = true := ga _
        have gb' : v241 (nI q) 0 2 (pm_w I1 127 0 0) = true := gb _
        unfold f287
        rw [pm_lt_eq]
        simp only [ga', gb', if_true, hg, zt_bind, e3]
        exact e4
      · rw [g4.1 127 0 (by decide) (by decide), g3 127 0 (by decide) (by decide), zt_ws]; rfl
    · have vb := fun I => v241b (x := y) (a := 0) (b := 2) (I := I) (by omega) (by omega) (by omega)
      refine KK_2 (b := nI 0) (Ia := pm_w I 0 13 (I 0 13 + nI 1)) (Ib := Ib) ?_ (fun J' => ?_) n3 n4
      · unfold f188
        rw [nd_g u1 u2, nd_b (by rw [e2]; omega)]
      · have ga' : v241 (nI m) 0 600 (pm_w (pm_w I 0 13 (I 0 13 + nI 1)) 127 0 0) = true := ga _
        have vb' : v241 y 0 2 (pm_w (pm_w I 0 13 (I 0 13 + nI 1)) 127 0 0) = false := vb _
        have n2' : f222 0 1 1 (pm_w (pm_w I 0 13 (I 0 13 + nI 1)) 127 0 0) J' = some (false, Ib, J') := n2 J'
        unfold f287
        rw [pm_lt_eq]
        simp only [ga', vb', Bool.false_eq_true, if_true, if_false, n2', zt_bind]
        rfl
  · have vb := fun I => v241b (x := x) (a := 0) (b := 600) (I := I) (by omega) (by omega) (by omega)
    refine KK_2 (b := nI 0) (Ia := pm_w I 0 13 (I 0 13 + nI 1)) (Ib := Ib) ?_ (fun J' => ?_) n3 n4
    · unfold f188
      rw [nd_b (by rw [e6]; omega)]
    · have vb' : v241 x 0 600 (pm_w (pm_w I 0 13 (I 0 13 + nI 1)) 127 0 0) = false := vb _
      have n2' : f222 0 1 1 (pm_w (pm_w I 0 13 (I 0 13 + nI 1)) 127 0 0) J' = some (false, Ib, J') := n2 J'
      unfold f287
      rw [pm_lt_eq]
      simp only [vb', Bool.false_eq_true, if_false, n2', zt_bind]
      rfl
theorem K24g {t9 : Nat} {x : Int32} (hRR : pm_RR r k I) : pm_KK r k (fun v b : Int32 => v = b) t9 1 (fun I J => f195 r x I J) (fun I J => f299 x I J) I J := by
  obtain ⟨n, t, D, l0, k0, l1, k1, h⟩ := hRR
  have hC := h.1.1
  have h8 := hC.1.2.2.2.2.1
  rcases tr (x := x) (n := 100) (by omega) with ⟨q, hq, rfl⟩ | hy
  · have R1 := R0_t0 (x := nI 0) h
    have e1 := fun x => e36 (J := J) (x := x) hC.1.2.1 h8
    have h2 := fun c k J => e222g (I := pm_w I 127 0 (nI 0)) (J := J) (c := c) (k := k) zt_ws
    have h3 := v241g (p := q) (a := 0) (b := 99) (I := pm_w I 127 0 (nI 0)) (by omega) (by omega) (by omega)
    refine KK_v (v := nI (pm_cnt (fun i => decide (I 5 i = nI 0)) n) * nI q) (I1 := I) (J1 := J) ?_ aj_refl (fun J' => ?_)
    · unfold f195
      simp (disch := omega) only [zt_lit, zt_l0, zt_lt, if_neg, if_false, e174G, zt_xl, e1, zt_bind]
    · obtain ⟨I3, e3, s3, ru3, _, _, g3⟩ := e253 (I := pm_w I 127 0 (nI 0)) (J := J') R1.1.2.2.1.1
      have R3 := R0_ag R1 g3 rfl
      rw [zt_wc (by omega)] at s3
      have e4 := fun c => e257 (J := J') (x := nI c) R3.1.2.1.1.1 h8
      simp only [cn_ms h8 s3] at e4
      refine ⟨I3, ?_, ?_, R0_R R3⟩
      · unfold f299
        simp only [pm_lt, zt_lit, h2, h3, zt_bind, if_true, e3, e4]
      · rw [g3 127 0 (by decide) (by decide), zt_ws]
  · obtain ⟨Ia, Ib, n1, n0, n2, n3, n4⟩ := il_xN (c := 1) h (Or.inl rfl)
    have h3 := v241b (x := x) (a := 0) (b := 99) (I := pm_w Ia 127 0 (nI 0)) (by omega) (by omega) (by omega)
    refine KK_2 (b := nI 0) (Ia := Ia) (Ib := Ib) ?_ (fun J' => ?_) n3 n4
    · unfold f195
      rw [zt_lit 99, nI_toInt (by omega)]
      rcases hy with hy | hy
      · rw [if_pos hy, zt_lit 0, n1, zt_xr]
      · rw [if_neg (by omega), if_pos (by omega), zt_lit 0, n1, zt_xr]
    · unfold f299
      simp only [pm_lt, zt_lit, h3, n2, zt_bind, Bool.false_eq_true, if_false]
theorem K25g {t9 : Nat} {x : Int32} (hRR : pm_RR r k I) : pm_KK r k (fun v b : Int32 => v = b) t9 1 (fun I J => f196 r x I J) (fun I J => f300 x I J) I J := by
  obtain ⟨n, t, D, l0, k0, l1, k1, h⟩ := hRR
  have hC := h.1.1
  have h8 := hC.1.2.2.2.2.1
  rcases tr (x := x) (n := 100) (by omega) with ⟨q, hq, rfl⟩ | hy
  · have R1 := R0_t0 (x := nI 0) h
    have e1 := fun x => e36 (J := J) (x := x) hC.1.2.1 h8
    have h2 := fun c k J => e222g (I := pm_w I 127 0 (nI 0)) (J := J) (c := c) (k := k) zt_ws
    have h3 := v241g (p := q) (a := 0) (b := 99) (I := pm_w I 127 0 (nI 0)) (by omega) (by omega) (by omega)
    have hc := cn_le (fun i => decide (I 5 i = nI 0)) n
    refine KK_v (v := if 0 < pm_cnt (fun i => decide (I 5 i = nI 0)) n then pm_min (nI q) (I 5 65 / nI (pm_cnt (fun i => decide (I 5 i = nI 0)) n)) else pm_m1) (I1 := I) (J1 := J) ?_ aj_refl (fun J' => ?_)
    · unfold f196
      by_cases c : 0 < pm_cnt (fun i => decide (I 5 i = nI 0)) n
      · have c2 : ¬ pm_cnt (fun i => decide (I 5 i = nI 0)) n = 0 := by omega
        simp (disch := omega) only [zt_lit, zt_m1, zt_l0, zt_lt, zt_lt0, zt_eq, if_neg, if_false, e174G, zt_xl, e1, zt_bind, c, c2, if_true, decide_false, Bool.not_false, zt_gd, v108, zt_at]
      · simp (disch := omega) only [zt_lit, zt_m1, zt_l0, zt_lt, zt_lt0, zt_eq, if_neg, if_false, e174G, zt_xl, e1, zt_bind, c]
    · obtain ⟨I3, e3, s3, ru3, _, _, g3⟩ := e253 (I := pm_w I 127 0 (nI 0)) (J := J') R1.1.2.2.1.1
      have R3 := R0_ag R1 g3 rfl
      rw [zt_wc (by omega)] at s3
      have e4 := fun c => e257 (J := J') (x := nI c) R3.1.2.1.1.1 h8
      simp only [cn_ms h8 s3] at e4
      have a5 := s3.2.2.2
      refine ⟨I3, ?_, ?_, R0_R R3⟩
      · unfold f300
        by_cases c : 0 < pm_cnt (fun i => decide (I 5 i = nI 0)) n
        · have c2 : ¬ pm_cnt (fun i => decide (I 5 i = nI 0)) n = 0 := by omega
          simp (disch := omega) only [pm_lt, zt_lit, zt_m1, h2, h3, zt_bind, if_true, e3, e4, zt_eq, c, c2, if_false, zt_in, zt_gd, decide_false, Bool.not_false, nI_clamp, a5]
          exact min_m (fun v => some (v, I3, J'))
        · have c2 : pm_cnt (fun i => decide (I 5 i = nI 0)) n = 0 := by omega
          simp (disch := omega) only [pm_lt, zt_lit, zt_m1, h2, h3, zt_bind, if_true, e3, e4, zt_eq, c2, if_pos, if_false, Nat.lt_irrefl]
      · rw [g3 127 0 (by decide) (by decide), zt_ws]
  · obtain ⟨Ia, Ib, n1, n0, n2, n3, n4⟩ := il_xN (c := 1) h (Or.inl rfl)
    have h3 := v241b (x := x) (a := 0) (b := 99) (I := pm_w Ia 127 0 (nI 0)) (by omega) (by omega) (by omega)
    refine KK_2 (b := nI 0) (Ia := Ia) (Ib := Ib) ?_ (fun J' => ?_) n3 n4
    · unfold f196
      rw [zt_lit 99, nI_toInt (by omega)]
      rcases hy with hy | hy
      · rw [if_pos hy, zt_lit 0, n1, zt_xr]
      · rw [if_neg (by omega), if_pos (by omega), zt_lit 0, n1, zt_xr]
    · unfold f300
      simp only [pm_lt, zt_lit, h3, n2, zt_bind, Bool.false_eq_true, if_false]
theorem K29g {t9 : Nat} {x y z : Int32} (hRR : pm_RR r k I) : pm_KK r k (fun v b : Int64 => v = b) t9 1 (fun I J => f199 x y z I J) (fun I J => f308 x y z I J) I J := by
  obtain ⟨n, t, D, l0, k0, l1, k1, h⟩ := hRR
  obtain ⟨Ib, n2, n3, n4⟩ := il_e h
  have e16 : ((16 : Int32)).toInt = 16 := by decide
  have n2' : ∀ J', f222 0 1 1 (pm_w (pm_w I 0 13 (I 0 13 + nI 1)) 127 0 0) J' = some (false, Ib, J') := n2
  rcases e200 (x := x) (I := I) (I' := pm_w (pm_w I 0 13 (I 0 13 + nI 1)) 127 0 0) with ⟨i, hi, rfl⟩ | ⟨hx, hx2⟩
  rotate_left
  · refine KK_2 (b := 0) (Ia := pm_w I 0 13 (I 0 13 + nI 1)) (Ib := Ib) ?_ (fun J' => ?_) n3 n4
    · unfold f199
      rw [hx]
      show pm_xb (f174 0 I J) _ = _
      rw [e174b, zt_xr]
    · unfold f308
      rw [pm_lt_eq]
      rcases hx2 with hx2 | ⟨hx2, hx3⟩
      · rw [hx2, if_neg (by decide), n2', zt_bind]
        show (if false = true then _ else _) = _
        rw [if_neg (by decide)]
      · rw [hx2, if_pos rfl, if_neg hx3, n2', zt_bind]
        show (if false = true then _ else _) = _
        rw [if_neg (by decide)]
  have gx : ∀ I', v241 (nI (2 * i + 1)) 1 9 I' = true := fun I' => v241g (p := 2 * i + 1) (a := 1) (b := 9) (by omega) (by omega) (by omega)
  have go : (nI (2 * i + 1) - nI (2 * i + 1) / 2 * 2) = 1 := by
    rw [zt_lit 2, pk_rem (by omega) (by omega) (by omega), show (2 * i + 1) % 2 = 1 by omega]; rfl
  have gc : v200 (nI (2 * i + 1)) I = true := by
    unfold v200
    have e1 : ((1 : Int32)).toInt = 1 := by decide
    have e9 : ((9 : Int32)).toInt = 9 := by decide
    rw [if_neg (by rw [nI_toInt (by omega), e1]; omega), if_neg (by rw [nI_toInt (by omega), e9]; omega), if_pos ((odd_1 _ (by omega)).mpr (by omega))]
  rcases tr2 y 0 16 (by omega) with ⟨q, _, hq, rfl⟩ | hy
  rotate_left
  · have vb' : v241 y 0 16 (pm_w (pm_w I 0 13 (I 0 13 + nI 1)) 127 0 0) = false := v241b (x := y) (a := 0) (b := 16) (by omega) (by omega) (by omega)
    refine KK_2 (b := 0) (Ia := pm_w I 0 13 (I 0 13 + nI 1)) (Ib := Ib) ?_ (fun J' => ?_) n3 n4
    · unfold f199
      rw [gc]
      show pm_xb (f174 1 I J) _ = _
      rw [e174g, zt_xl, nd_b (x := y) (by rw [e16]; omega)]
    · unfold f308
      rw [pm_lt_eq, gx, if_pos rfl, if_pos go, vb', if_neg (by decide), n2', zt_bind]
      show (if false = true then _ else _) = _
      rw [if_neg (by decide)]
  have gq : ∀ I', v241 (nI q) 0 16 I' = true := fun I' => v241g (p := q) (a := 0) (b := 16) (by omega) (by omega) (by omega)
  have yq1 : ¬ (nI q).toInt < 0 := by rw [nI_toInt (by omega)]; omega
  have yq2 : ¬ ((16 : Int32)).toInt < (nI q).toInt := by rw [nI_toInt (by omega), e16]; omega
  rcases tr2 z 0 1 (by omega) with ⟨p, _, hp, rfl⟩ | hy
  rotate_left
  · have vb' : v241 z 0 1 (pm_w (pm_w I 0 13 (I 0 13 + nI 1)) 127 0 0) = false := v241b (x := z) (a := 0) (b := 1) (by omega) (by omega) (by omega)
    have q1 : ¬ z = 0 := fun e => by rw [e, zt_lit 0, nI_toInt (by omega)] at hy; omega
    have q2 : ¬ z = 1 := fun e => by rw [e, zt_lit 1, nI_toInt (by omega)] at hy; omega
    refine KK_2 (b := 0) (Ia := pm_w I 0 13 (I 0 13 + nI 1)) (Ib := Ib) ?_ (fun J' => ?_) n3 n4
    · unfold f199
      rw [gc]
      show pm_xb (f174 1 I J) _ = _
      rw [e174g, zt_xl, nd_g yq1 yq2, nd2_b q1 q2]
    · unfold f308
      rw [pm_lt_eq, gx, if_pos rfl, if_pos go, gq, if_pos rfl, vb', if_neg (by decide), n2', zt_bind]
      show (if false = true then _ else _) = _
      rw [if_neg (by decide)]
  have gp : ∀ I', v241 (nI p) 0 1 I' = true := fun I' => v241g (p := p) (a := 0) (b := 1) (by omega) (by omega) (by omega)
  have R1 := R0_t0 (x := 0) h
  obtain ⟨v, c1, c2⟩ := ct (I := I) (J := J) (I' := pm_w I 127 0 0) hi (show q < 17 by omega) (show p < 2 by omega)
  have e1 := e201 (I := I) (J := J) (n := 2 * i + 1) (q := q) (by omega) (by omega) hq
  refine KK_v (v := v) (I1 := I) (J1 := J) ?_ aj_refl (fun J' => ⟨pm_w I 127 0 0, ?_, by rw [zt_ws]; rfl, R0_R R1⟩)
  · unfold f199
    rw [gc]
    show pm_xb (f174 1 I J) _ = _
    rw [e174g, zt_xl, nd_g yq1 yq2]
    have cp : p = 0 ∨ p = 1 := by omega
    rcases cp with rfl | rfl
    · rw [nd2_0 (x := nI 0) rfl, e1, zt_bind]
      exact c1
    · rw [nd2_1 (x := nI 1) rfl, e1, zt_bind]
      exact c1
  · have hg : f222 1 1 1 (pm_w I 127 0 0) J' = some (true, pm_w I 127 0 0, J') := e222g (I := pm_w I 127 0 0) (J := J') (c := 1) (k := 1) (by rw [zt_ws]; rfl)
    have e2 := e309 (I := pm_w I 127 0 0) (J := J') hi hq
    have e3 := e310 (I := pm_w I 127 0 0) (J := J') (b := 16) (e := 2 * i + 1) (by omega)
    unfold f308
    rw [pm_lt_eq, gx, if_pos rfl, if_pos go, gq, if_pos rfl, gp, if_pos rfl, hg, zt_bind]
    show (if true = true then (f309 _ _ _ _).bind _ else _) = _
    rw [if_pos rfl, e2, zt_bind]
    show (f310 (lN 16) _ _ _).bind _ = _
    rw [e3, zt_bind]
    show (f311 _ _ _ _ _).bind _ = _
    rw [c2, zt_bind]
theorem K30g {t9 : Nat} {x y : Int32} (hRR : pm_RR r k I) : pm_KK r k (fun v b : Int32 => v = b) t9 1 (fun I J => f204 x y I J) (fun I J => f312 x y I J) I J := by
  obtain ⟨n, t, D, l0, k0, l1, k1, h⟩ := hRR
  obtain ⟨Ib, n2, n3, n4⟩ := il_e h
  have e16 : ((16 : Int32)).toInt = 16 := by decide
  have n2' : ∀ J', f222 0 1 1 (pm_w (pm_w I 0 13 (I 0 13 + nI 1)) 127 0 0) J' = some (false, Ib, J') := n2
  rcases tr2 x 0 16 (by omega) with ⟨q, _, hq, rfl⟩ | hy
  rotate_left
  · have vb' : v241 x 0 16 (pm_w (pm_w I 0 13 (I 0 13 + nI 1)) 127 0 0) = false := v241b (x := x) (a := 0) (b := 16) (by omega) (by omega) (by omega)
    refine KK_2 (b := 0) (Ia := pm_w I 0 13 (I 0 13 + nI 1)) (Ib := Ib) ?_ (fun J' => ?_) n3 n4
    · unfold f204
      rw [nd_b (x := x) (by rw [e16]; omega)]
    · unfold f312
      rw [pm_lt_eq, vb', if_neg (by decide), n2', zt_bind]
      show (if false = true then _ else _) = _
      rw [if_neg (by decide)]
  have gq : ∀ I', v241 (nI q) 0 16 I' = true := fun I' => v241g (p := q) (a := 0) (b := 16) (by omega) (by omega) (by omega)
  have yq1 : ¬ (nI q).toInt < 0 := by rw [nI_toInt (by omega)]; omega
  have yq2 : ¬ ((16 : Int32)).toInt < (nI q).toInt := by rw [nI_toInt (by omega), e16]; omega
  rcases tr2 y 0 16 (by omega) with ⟨c, _, hc, rfl⟩ | hy
  rotate_left
  · have vb' : v241 y 0 16 (pm_w (pm_w I 0 13 (I 0 13 + nI 1)) 127 0 0) = false := v241b (x := y) (a := 0) (b := 16) (by omega) (by omega) (by omega)
    refine KK_2 (b := 0) (Ia := pm_w I 0 13 (I 0 13 + nI 1)) (Ib := Ib) ?_ (fun J' => ?_) n3 n4
    · unfold f204
      rw [nd_g yq1 yq2, nd_b (x := y) (by rw [e16]; omega)]
    · unfold f312
      rw [pm_lt_eq, gq, if_pos rfl, vb', if_neg (by decide), n2', zt_bind]
      show (if false = true then _ else _) = _
      rw [if_neg (by decide)]
  have gc : ∀ I', v241 (nI c) 0 16 I' = true := fun I' => v241g (p := c) (a := 0) (b := 16) (by omega) (by omega) (by omega)
  have R1 := R0_t0 (x := 0) h
  obtain ⟨v, c1, c2⟩ := lw (I := I) (J := J) hq hc 5 0 pm_FU (by omega) (by unfold pm_FU; omega)
  refine KK_v (v := v) (I1 := I) (J1 := J) ?_ aj_refl (fun J' => ⟨pm_w I 127 0 0, ?_, by rw [zt_ws]; rfl, R0_R R1⟩)
  · unfold f204
    rw [nd_g yq1 yq2, nd_g (x := nI c) (by rw [nI_toInt (by omega)]; omega) (by rw [nI_toInt (by omega), e16]; omega)]
    exact c1
  · have hg : f222 1 1 1 (pm_w I 127 0 0) J' = some (true, pm_w I 127 0 0, J') := e222g (I := pm_w I 127 0 0) (J := J') (c := 1) (k := 1) (by rw [zt_ws]; rfl)
    unfold f312
    rw [pm_lt_eq, gq, gc, if_pos rfl, if_pos rfl, hg, zt_bind]
    show (if true = true then _ else _) = _
    rw [if_pos rfl]
    exact c2 _ _
theorem K31g {t9 : Nat} {x y z : Int32} (hRR : pm_RR r k I) : pm_KK r k (fun v b : Int32 => v = b) t9 1 (fun I J => f205 x y z I J) (fun I J => f313 x y z I J) I J := by
  obtain ⟨n, t, D, l0, k0, l1, k1, h⟩ := hRR
  obtain ⟨Ib, n2, n3, n4⟩ := il_e h
  have e1 : ((9999 : Int32)).toInt = 9999 := by decide
  have e2 : ((999 : Int32)).toInt = 999 := by decide
  have e3 : ((100 : Int32)).toInt = 100 := by decide
  rcases tr2 x 0 9999 (by omega) with ⟨a, _, a2, rfl⟩ | hx
  · have u1 : ¬ (nI a).toInt < 0 := by rw [nI_toInt (by omega)]; omega
    have u2 : ¬ ((9999 : Int32)).toInt < (nI a).toInt := by rw [nI_toInt (by omega), e1]; omega
    have ga := fun I => v241g (p := a) (a := 0) (b := 9999) (I := I) (by omega) (by omega) (by omega)
    rcases tr2 y 0 999 (by omega) with ⟨b, _, b2, rfl⟩ | hy
    · have w1 : ¬ (nI b).toInt < 0 := by rw [nI_toInt (by omega)]; omega
      have w2 : ¬ ((999 : Int32)).toInt < (nI b).toInt := by rw [nI_toInt (by omega), e2]; omega
      have gb := fun I => v241g (p := b) (a := 0) (b := 999) (I := I) (by omega) (by omega) (by omega)
      rcases tr2 z 0 100 (by omega) with ⟨c, _, c2, rfl⟩ | hz
      · have R1 := R0_t0 (x := nI 0) h
        have gc := fun I => v241g (p := c) (a := 0) (b := 100) (I := I) (by omega) (by omega) (by omega)
        have h2' : ∀ J, f222 (nI 1) (nI 1) (nI 1) (pm_w I 127 0 (nI 0)) J = some (true, pm_w I 127 0 (nI 0), J) := fun J => e222g (I := pm_w I 127 0 (nI 0)) (J := J) (c := nI 1) (k := nI 1) zt_ws
        obtain ⟨v, q1, q2⟩ := lo_eq (I := I) (J := J) (w := b) (r := c) c2 b2 601 0 pm_FU a (by omega) (by unfold pm_FU; omega) a2
        refine KK_v (v := v) (I1 := I) (J1 := J) ?_ aj_refl (fun J' => ⟨pm_w I 127 0 (nI 0), ?_, zt_ws, R0_R R1⟩)
        · unfold f205
          rw [nd_g u1 u2, nd_g w1 w2, nd_g (by rw [nI_toInt (by omega)]; omega) (by rw [nI_toInt (by omega), e3]; omega)]
          exact q1
        · unfold f313
          simp (disch := omega) only [pm_lt, zt_lit, ga, gb, gc, h2', zt_bind, if_true, nI_l]
          exact q2 _ _
      · have vb := fun I => v241b (x := z) (a := 0) (b := 100) (I := I) (by omega) (by omega) (by omega)
        refine KK_2 (b := nI 0) (Ia := pm_w I 0 13 (I 0 13 + nI 1)) (Ib := Ib) ?_ (fun J' => ?_) n3 n4
        · unfold f205
          rw [nd_g u1 u2, nd_g w1 w2, nd_b (by rw [e3]; omega)]
        · unfold f313
          simp only [pm_lt, zt_lit, ga, gb, vb, n2, zt_bind, Bool.false_eq_true, if_true, if_false]
    · have vb := fun I => v241b (x := y) (a := 0) (b := 999) (I := I) (by omega) (by omega) (by omega)
      refine KK_2 (b := nI 0) (Ia := pm_w I 0 13 (I 0 13 + nI 1)) (Ib := Ib) ?_ (fun J' => ?_) n3 n4
      · unfold f205
        rw [nd_g u1 u2, nd_b (by rw [e2]; omega)]
      · unfold f313
        simp only [pm_lt, zt_lit, ga, vb, n2, zt_bind, Bool.false_eq_true, if_true, if_false]
  · have vb := fun I => v241b (x := x) (a := 0) (b := 9999) (I := I) (by omega) (by omega) (by omega)
    refine KK_2 (b := nI 0) (Ia := pm_w I 0 13 (I 0 13 + nI 1)) (Ib := Ib) ?_ (fun J' => ?_) n3 n4
    · unfold f205
      rw [nd_b (by rw [e1]; omega)]
    · unfold f313
      simp only [pm_lt, zt_lit, vb, n2, zt_bind, Bool.false_eq_true, if_false]
theorem K33g {t9 : Nat} {x y z u : Int32} (hRR : pm_RR r k I) : pm_KK r k (fun v b : Int32 => v = b) t9 1 (fun I J => f207 x y z u I J) (fun I J => f315 x y z u I J) I J := by
  obtain ⟨n, t, D, l0, k0, l1, k1, h⟩ := hRR
  obtain ⟨Ib, n2, n3, n4⟩ := il_e h
  have e20 : ((20 : Int32)).toInt = 20 := by decide
  have e99 : ((99 : Int32)).toInt = 99 := by decide
  have e2 : ((2 : Int32)).toInt = 2 := by decide
  have n2' : ∀ J', f222 0 1 1 (pm_w (pm_w I 0 13 (I 0 13 + nI 1)) 127 0 0) J' = some (false, Ib, J') := n2
  rcases tr2 x 0 20 (by omega) with ⟨a, _, ha, rfl⟩ | hx
  rotate_left
  · have vb' : v241 x 0 20 (pm_w (pm_w I 0 13 (I 0 13 + nI 1)) 127 0 0) = false := v241b (x := x) (a := 0) (b := 20) (by omega) (by omega) (by omega)
    refine KK_2 (b := 0) (Ia := pm_w I 0 13 (I 0 13 + nI 1)) (Ib := Ib) ?_ (fun J' => ?_) n3 n4
    · unfold f207
      rw [nd_b (x := x) (by rw [e20]; omega)]
    · unfold f315
      rw [pm_lt_eq]
      simp only [vb', Bool.false_eq_true, if_false, n2', zt_bind]
  have u1 : ¬ (nI a).toInt < 0 := by rw [nI_toInt (by omega)]; omega
  have u2 : ¬ ((20 : Int32)).toInt < (nI a).toInt := by rw [nI_toInt (by omega), e20]; omega
  have ga : ∀ I, v241 (nI a) 0 20 I = true := fun I => v241g (p := a) (a := 0) (b := 20) (I := I) (by omega) (by omega) (by omega)
  rcases tr2 y 0 99 (by omega) with ⟨v, _, hv, rfl⟩ | hx
  rotate_left
  · have vb' : v241 y 0 99 (pm_w (pm_w I 0 13 (I 0 13 + nI 1)) 127 0 0) = false := v241b (x := y) (a := 0) (b := 99) (by omega) (by omega) (by omega)
    refine KK_2 (b := 0) (Ia := pm_w I 0 13 (I 0 13 + nI 1)) (Ib := Ib) ?_ (fun J' => ?_) n3 n4
    · unfold f207
      rw [nd_g u1 u2, nd_b (x := y) (by rw [e99]; omega)]
    · unfold f315
      rw [pm_lt_eq]
      simp only [ga, vb', Bool.false_eq_true, if_true, if_false, n2', zt_bind]
  have w1 : ¬ (nI v).toInt < 0 := by rw [nI_toInt (by omega)]; omega
  have w2 : ¬ ((99 : Int32)).toInt < (nI v).toInt := by rw [nI_toInt (by omega), e99]; omega
  have gv : ∀ I, v241 (nI v) 0 99 I = true := fun I => v241g (p := v) (a := 0) (b := 99) (I := I) (by omega) (by omega) (by omega)
  rcases tr2 z 0 99 (by omega) with ⟨w, _, hw, rfl⟩ | hx
  rotate_left
  · have vb' : v241 z 0 99 (pm_w (pm_w I 0 13 (I 0 13 + nI 1)) 127 0 0) = false := v241b (x := z) (a := 0) (b := 99) (by omega) (by omega) (by omega)
    refine KK_2 (b := 0) (Ia := pm_w I 0 13 (I 0 13 + nI 1)) (Ib := Ib) ?_ (fun J' => ?_) n3 n4
    · unfold f207
      rw [nd_g u1 u2, nd_g w1 w2, nd_b (x := z) (by rw [e99]; omega)]
    · unfold f315
      rw [pm_lt_eq]
      simp only [ga, gv, vb', Bool.false_eq_true, if_true, if_false, n2', zt_bind]
  have z1 : ¬ (nI w).toInt < 0 := by rw [nI_toInt (by omega)]; omega
  have z2 : ¬ ((99 : Int32)).toInt < (nI w).toInt := by rw [nI_toInt (by omega), e99]; omega
  have gw : ∀ I, v241 (nI w) 0 99 I = true := fun I => v241g (p := w) (a := 0) (b := 99) (I := I) (by omega) (by omega) (by omega)
  rcases tr2 u 0 2 (by omega) with ⟨q, _, hq, rfl⟩ | hx
  rotate_left
  · have vb' : v241 u 0 2 (pm_w (pm_w I 0 13 (I 0 13 + nI 1)) 127 0 0) = false := v241b (x := u) (a := 0) (b := 2) (by omega) (by omega) (by omega)
    refine KK_2 (b := 0) (Ia := pm_w I 0 13 (I 0 13 + nI 1)) (Ib := Ib) ?_ (fun J' => ?_) n3 n4
    · unfold f207
      rw [nd_g u1 u2, nd_g w1 w2, nd_g z1 z2, nd_b (x := u) (by rw [e2]; omega)]
    · unfold f315
      rw [pm_lt_eq]
      simp only [ga, gv, gw, vb', Bool.false_eq_true, if_true, if_false, n2', zt_bind]
  have gq : ∀ I, v241 (nI q) 0 2 I = true := fun I => v241g (p := q) (a := 0) (b := 2) (I := I) (by omega) (by omega) (by omega)
  have R1 := R0_t0 (x := 0) h
  have s1 := l207 (I := I) (J := J) (x := q) ha hv hw (by omega) (a + 1) 0 pm_FU (by omega) (by unfold pm_FU; omega)
  rw [Nat.mul_zero, pm_cnt, pm_ff, nI_0] at s1
  refine KK_v (v := pm_bo a v w q) (I1 := I) (J1 := J) ?_ aj_refl (fun J' => ⟨pm_w I 127 0 0, ?_, by rw [zt_ws]; rfl, R0_R R1⟩)
  · unfold f207
    rw [nd_g u1 u2, nd_g w1 w2, nd_g z1 z2, nd_g (x := nI q) (by rw [nI_toInt (by omega)]; omega) (by rw [nI_toInt (by omega), e2]; omega)]
    exact s1
  · have s2 := l315 (I := pm_w I 127 0 0) (J := J') (x := q) ha hv hw (by omega) ((a + 1) * (a + 1)) 0 pm_FU (by omega) (by have : (a + 1) * (a + 1) ≤ 21 * 21 := Nat.mul_le_mul (by omega) (by omega); unfold pm_FU; omega)
    rw [pm_cnt, pm_ff, nI_0] at s2
    have hg : f222 1 1 1 (pm_w I 127 0 0) J' = some (true, pm_w I 127 0 0, J') := e222g (I := pm_w I 127 0 0) (J := J') (c := 1) (k := 1) (by rw [zt_ws]; rfl)
    unfold f315
    rw [pm_lt_eq, ga, gv, gw, gq, if_pos rfl, if_pos rfl, if_pos rfl, if_pos rfl, hg, zt_bind]
    show (if true = true then _ else _) = _
    rw [if_pos rfl]
    exact s2
theorem K34g {t9 : Nat} {x y z : Int32} (hRR : pm_RR r k I) : pm_KK r k (fun v b : Int32 => v = b) t9 1 (fun I J => f210 x y z I J) (fun I J => f318 x y z I J) I J := by
  obtain ⟨n, t, D, l0, k0, l1, k1, h⟩ := hRR
  obtain ⟨Ib, n2, n3, n4⟩ := il_e h
  have e99 : ((99 : Int32)).toInt = 99 := by decide
  rcases tr2 x 0 99 (by omega) with ⟨a, _, a2, rfl⟩ | hx
  · have u1 : ¬ (nI a).toInt < 0 := by rw [nI_toInt (by omega)]; omega
    have u2 : ¬ ((99 : Int32)).toInt < (nI a).toInt := by rw [nI_toInt (by omega), e99]; omega
    have ga := fun I => v241g (p := a) (a := 0) (b := 99) (I := I) (by omega) (by omega) (by omega)
    rcases tr2 y 0 99 (by omega) with ⟨b, _, b2, rfl⟩ | hy
    · have w1 : ¬ (nI b).toInt < 0 := by rw [nI_toInt (by omega)]; omega
      have w2 : ¬ ((99 : Int32)).toInt < (nI b).toInt := by rw [nI_toInt (by omega), e99]; omega
      have gb := fun I => v241g (p := b) (a := 0) (b := 99) (I := I) (by omega) (by omega) (by omega)
      rcases tr2 z 0 99 (by omega) with ⟨c, _, c2, rfl⟩ | hz
      · have R1 := R0_t0 (x := nI 0) h
        have gc := fun I => v241g (p := c) (a := 0) (b := 99) (I := I) (by omega) (by omega) (by omega)
        have h2 := fun c k J => e222g (I := pm_w I 127 0 (nI 0)) (J := J) (c := c) (k := k) zt_ws
        refine KK_v (v := v208 (nI a) (nI b) (nI c) I) (I1 := I) (J1 := J) ?_ aj_refl (fun J' => ⟨pm_w I 127 0 (nI 0), ?_, zt_ws, R0_R R1⟩)
        · unfold f210
          rw [nd_g u1 u2, nd_g w1 w2, nd_g (by rw [nI_toInt (by omega)]; omega) (by rw [nI_toInt (by omega), e99]; omega)]
        · unfold f318
          have h2' : ∀ J, f222 (nI 1) (nI 1) (nI 1) (pm_w I 127 0 (nI 0)) J = some (true, pm_w I 127 0 (nI 0), J) := fun J => h2 _ _ J
          simp only [pm_lt, zt_lit, ga, gb, gc, h2', zt_bind, if_true]
          rw [e208]
      · have vb := fun I => v241b (x := z) (a := 0) (b := 99) (I := I) (by omega) (by omega) (by omega)
        refine KK_2 (b := nI 0) (Ia := pm_w I 0 13 (I 0 13 + nI 1)) (Ib := Ib) ?_ (fun J' => ?_) n3 n4
        · unfold f210
          rw [nd_g u1 u2, nd_g w1 w2, nd_b (by rw [e99]; omega)]
        · unfold f318
          simp only [pm_lt, zt_lit, ga, gb, vb, n2, zt_bind, Bool.false_eq_true, if_true, if_false]
    · have vb := fun I => v241b (x := y) (a := 0) (b := 99) (I := I) (by omega) (by omega) (by omega)
      refine KK_2 (b := nI 0) (Ia := pm_w I 0 13 (I 0 13 + nI 1)) (Ib := Ib) ?_ (fun J' => ?_) n3 n4
      · unfold f210
        rw [nd_g u1 u2, nd_b (by rw [e99]; omega)]
      · unfold f318
        simp only [pm_lt, zt_lit, ga, vb, n2, zt_bind, Bool.false_eq_true, if_true, if_false]
  · have vb := fun I => v241b (x := x) (a := 0) (b := 99) (I := I) (by omega) (by omega) (by omega)
    refine KK_2 (b := nI 0) (Ia := pm_w I 0 13 (I 0 13 + nI 1)) (Ib := Ib) ?_ (fun J' => ?_) n3 n4
    · unfold f210
      rw [nd_b (by rw [e99]; omega)]
    · unfold f318
      simp only [pm_lt, zt_lit, vb, n2, zt_bind, Bool.false_eq_true, if_false]
theorem K35g {t9 : Nat} {I : Nat → Nat → Int32} {s x2 x3 x4 x5 : Int32} (hRR : pm_RR r k I) : pm_KK r k (fun v b : Int32 => v = b) t9 1 (fun I J => f211 r s x2 x3 x4 x5 I J) (fun I J => f319 s x2 x3 x4 x5 I J) I J := by
  obtain ⟨n, t, D, l0, k0, l1, k1, h⟩ := hRR
  obtain ⟨Ib, n2, n3, n4⟩ := il_e h
  have hC := h.1.1
  have h8 := hC.1.2.2.2.2.1
  have hi := h.1.2.2.1.2
  obtain ⟨wk, st, hwk, hst, e64, e65, hpp⟩ := id hi
  have e3 : ((3 : Int32)).toInt = 3 := by decide
  have n2' : ∀ J', f222 0 1 1 (pm_w (pm_w I 0 13 (I 0 13 + nI 1)) 127 0 0) J' = some (false, Ib, J') := n2
  by_cases hv : pm_vok x2 x3 x4
  · obtain ⟨q, kk, W, hq, hk, h1, hW, rfl, rfl, rfl⟩ := hv
    have gv := fun I => v212g (I := I) hq hk h1 hW
    rcases tr2 x5 0 3 (by omega) with ⟨z, _, hz, rfl⟩ | hy
    · have gb := fun I => v241g (p := z) (a := 0) (b := 3) (I := I) (by omega) (by omega) (by omega)
      have cl : ∃ I1, f211 r s (nI q) (nI kk) (nI W) (nI z) I J = some (.inl (pm_vy l0 k0 D n st (I 5) q kk W s z), I1, J) ∧ pm_ag [8, 11, 12] [(112, 0), (112, 1), (112, 2)] I I1 := by
        obtain ⟨Ia, ea⟩ := e54 (J := J) (m := W) (by omega) hC
        obtain ⟨Ic, ec, c0, c1, c2⟩ := e154 (J := J) (s := s) hq hk hW hst e65 hC
        have ga := (fr_54 _ _ _ ea).1
        have gc := (fr_154 _ _ _ ec).1
        unfold f211 pm_vy
        rw [(gv I).1]
        show ∃ I1, pm_xb (f174 1 I J) _ = _ ∧ _
        rw [e174g, zt_xl, nd_g (x := nI z) (by rw [nI_toInt (by omega)]; omega) (by rw [nI_toInt (by omega), e3]; omega)]
        have zz : z = 0 ∨ z = 1 ∨ z = 2 ∨ z = 3 := by omega
        rcases zz with rfl | rfl | rfl | rfl
        · refine ⟨Ic, ?_, ag_mono gc (zt_sub rfl) (zt_subF rfl)⟩
          rw [if_neg (by decide), ec, zt_bind]
          simp only [c0]
          rfl
        · refine ⟨Ic, ?_, ag_mono gc (zt_sub rfl) (zt_subF rfl)⟩
          rw [if_neg (by decide), ec, zt_bind]
          simp only [c1]
          rfl
        · refine ⟨Ic, ?_, ag_mono gc (zt_sub rfl) (zt_subF rfl)⟩
          rw [if_neg (by decide), ec, zt_bind]
          simp only [c2]
          rfl
        · refine ⟨Ia, ?_, ag_mono ga (zt_sub rfl) (zt_subF rfl)⟩
          rw [if_pos (by decide), ea, zt_bind]
          rfl
      obtain ⟨I1, ecl, g1⟩ := cl
      have R1 := R0_t0 (x := 0) (R0_ag h g1 rfl)
      have i5 : I1 5 = I 5 := ag_cell g1 (by decide) (by intro f; simp)
      refine KK_v (v := pm_vy l0 k0 D n st (I 5) q kk W s z) (I1 := I1) (J1 := J) ecl aj_refl (fun J' => ?_)
      have ms := R1.1.2.2.1.1
      rw [zt_wc (by omega), zt_wc (by omega), i5] at ms
      obtain ⟨I4, v', e4, s4, B4, u65, u41, u56⟩ := e321 (J := J') (I := pm_w I1 127 0 0) (s := s) hi hq hk hW hst R1.1.2.1 (by rw [zt_wc (by omega)]; exact ms) e65
      have g4 := (fr_321 _ _ _ e4).1
      have R4 := R0_ag R1 g4 rfl
      have hg : f222 1 1 1 (pm_w I1 127 0 0) J' = some (true, pm_w I1 127 0 0, J') := e222g (I := pm_w I1 127 0 0) (J := J') (c := 1) (k := 1) (by rw [zt_ws]; rfl)
      have gb' : v241 (nI z) 0 3 (pm_w I1 127 0 0) = true := gb _
      refine ⟨I4, ?_, ?_, R0_R R4⟩
      · unfold f319 pm_vy
        rw [pm_lt_eq]
        simp only [(gv (pm_w I1 127 0 0)).2, gb', if_true, hg, zt_bind, e4]
        have zz : z = 0 ∨ z = 1 ∨ z = 2 ∨ z = 3 := by omega
        rcases zz with rfl | rfl | rfl | rfl
        · rw [if_pos (by decide), u41]; rfl
        · rw [if_neg (by decide), if_pos (by decide), zt_lit 65, zt_in (by omega) (by omega), zt_gd, nI_clamp (by omega), s4.2.2.2, u65]; rfl
        · rw [if_neg (by decide), if_neg (by decide), if_pos (by decide), u56]; rfl
        · rw [if_neg (by decide), if_neg (by decide), if_neg (by decide), zt_lit 3, e257 R4.1.2.1.1.1 h8, zt_bind, cn_ms h8 s4, Bd_free B4]; rfl
      · rw [g4 127 0 (by decide) (by decide), zt_ws]; rfl
    · have vb := fun I => v241b (x := x5) (a := 0) (b := 3) (I := I) (by omega) (by omega) (by omega)
      refine KK_2 (b := nI 0) (Ia := pm_w I 0 13 (I 0 13 + nI 1)) (Ib := Ib) ?_ (fun J' => ?_) n3 n4
      · unfold f211
        rw [(gv I).1]
        show pm_xb (f174 1 I J) _ = _
        rw [e174g, zt_xl, nd_b (x := x5) (by rw [e3]; omega)]
      · have vb' : v241 x5 0 3 (pm_w (pm_w I 0 13 (I 0 13 + nI 1)) 127 0 0) = false := vb _
        unfold f319
        rw [pm_lt_eq]
        simp only [(gv (pm_w (pm_w I 0 13 (I 0 13 + nI 1)) 127 0 0)).2, vb', Bool.false_eq_true, if_true, if_false, n2', zt_bind]
        rfl
  · have vb := fun I => v212b (I := I) (I' := I) hv
    refine KK_2 (b := nI 0) (Ia := pm_w I 0 13 (I 0 13 + nI 1)) (Ib := Ib) ?_ (fun J' => ?_) n3 n4
    · unfold f211
      rw [(vb I).1]
      show pm_xb (f174 0 I J) _ = _
      rw [e174b, zt_xr]
    · unfold f319
      rw [pm_lt_eq]
      simp only [(vb (pm_w (pm_w I 0 13 (I 0 13 + nI 1)) 127 0 0)).2, Bool.false_eq_true, if_false, n2', zt_bind]
      rfl
theorem K36g {t9 : Nat} {I : Nat → Nat → Int32} {s x2 x3 x4 x5 x6 : Int32} (hRR : pm_RR r k I) : pm_KK r k (fun v b : Int32 => v = b) t9 1 (fun I J => f213 r s x2 x3 x4 x5 x6 I J) (fun I J => f323 s x2 x3 x4 x5 x6 I J) I J := by
  obtain ⟨n, t, D, l0, k0, l1, k1, h⟩ := hRR
  obtain ⟨Ib, n2, n3, n4⟩ := il_e h
  have hC := h.1.1
  have hi := h.1.2.2.1.2
  obtain ⟨wk, st, hwk, hst, e64, e65, hpp⟩ := id hi
  have e1 : ((1 : Int32)).toInt = 1 := by decide
  have e2 : ((2 : Int32)).toInt = 2 := by decide
  have e20 : ((20 : Int32)).toInt = 20 := by decide
  have n2' : ∀ J', f222 0 1 1 (pm_w (pm_w I 0 13 (I 0 13 + nI 1)) 127 0 0) J' = some (false, Ib, J') := n2
  rcases tr2 x2 1 20 (by omega) with ⟨m, h1m, hm, rfl⟩ | hxm
  rotate_left
  · have vb' : v241 x2 1 20 (pm_w (pm_w I 0 13 (I 0 13 + nI 1)) 127 0 0) = false := v241b (x := x2) (a := 1) (b := 20) (by omega) (by omega) (by omega)
    refine KK_2 (b := nI 0) (Ia := pm_w I 0 13 (I 0 13 + nI 1)) (Ib := Ib) ?_ (fun J' => ?_) n3 n4
    · unfold f213
      rw [nd_b (x := x2) (by rw [e1, e20]; omega)]
    · unfold f323
      rw [pm_lt_eq]
      simp only [vb', Bool.false_eq_true, if_false, n2', zt_bind]
      rfl
  have u1 : ¬ (nI m).toInt < ((1 : Int32)).toInt := by rw [nI_toInt (by omega), e1]; omega
  have u2 : ¬ ((20 : Int32)).toInt < (nI m).toInt := by rw [nI_toInt (by omega), e20]; omega
  have gm : ∀ I, v241 (nI m) 1 20 I = true := fun I => v241g (p := m) (a := 1) (b := 20) (I := I) (by omega) (by omega) (by omega)
  by_cases hv : pm_vok x3 x4 x5
  rotate_left
  · have vb := fun I => v212b (I := I) (I' := I) hv
    refine KK_2 (b := nI 0) (Ia := pm_w I 0 13 (I 0 13 + nI 1)) (Ib := Ib) ?_ (fun J' => ?_) n3 n4
    · unfold f213
      rw [nd_g u1 u2, (vb I).1]
      show pm_xb (f174 0 I J) _ = _
      rw [e174b, zt_xr]
    · unfold f323
      rw [pm_lt_eq]
      simp only [gm, (vb (pm_w (pm_w I 0 13 (I 0 13 + nI 1)) 127 0 0)).2, Bool.false_eq_true, if_true, if_false, n2', zt_bind]
      rfl
  obtain ⟨q, kk, W, hq, hk, h1, hW, rfl, rfl, rfl⟩ := hv
  have gv := fun I => v212g (I := I) hq hk h1 hW
  rcases tr2 x6 0 2 (by omega) with ⟨z, _, hz, rfl⟩ | hy
  rotate_left
  · have vb' : v241 x6 0 2 (pm_w (pm_w I 0 13 (I 0 13 + nI 1)) 127 0 0) = false := v241b (x := x6) (a := 0) (b := 2) (by omega) (by omega) (by omega)
    refine KK_2 (b := nI 0) (Ia := pm_w I 0 13 (I 0 13 + nI 1)) (Ib := Ib) ?_ (fun J' => ?_) n3 n4
    · unfold f213
      rw [nd_g u1 u2, (gv I).1]
      show pm_xb (f174 1 I J) _ = _
      rw [e174g, zt_xl, nd_b (x := x6) (by rw [e2]; omega)]
    · unfold f323
      rw [pm_lt_eq]
      simp only [gm, (gv (pm_w (pm_w I 0 13 (I 0 13 + nI 1)) 127 0 0)).2, vb', Bool.false_eq_true, if_true, if_false, n2', zt_bind]
      rfl
  have gb : ∀ I, v241 (nI z) 0 2 I = true := fun I => v241g (p := z) (a := 0) (b := 2) (I := I) (by omega) (by omega) (by omega)
  obtain ⟨I1, ec⟩ := e213 (J := J) (s := s) (x := z) hm hq hk hW hst e65 (by omega) hC
  have g1 := (fr_213_64 _ _ _ _ _ _ _ _ _ _ _ _ _ _ _ _ ec).1
  have R1 := R0_t0 (x := 0) (R0_ag h g1 rfl)
  have i5 : I1 5 = I 5 := ag_cell g1 (by decide) (by intro f; simp)
  have ms := R1.1.2.2.1.1
  rw [zt_wc (by omega), zt_wc (by omega), i5] at ms
  refine KK_v (v := pm_so (pm_hs (pm_cnt (fun p => decide (I 5 p = nI 0)) n) q kk W st s) m z) (I1 := I1) (J1 := J) ?_ aj_refl (fun J' => ?_)
  · unfold f213
    rw [nd_g u1 u2, (gv I).1]
    show pm_xb (f174 1 I J) _ = _
    rw [e174g, zt_xl, nd_g (x := nI z) (by rw [nI_toInt (by omega)]; omega) (by rw [nI_toInt (by omega), e2]; omega)]
    exact ec
  · obtain ⟨I4, e4⟩ := e323 (J := J') (I := pm_w I1 127 0 0) (s := s) (x := z) hi h1m hm hq hk hW hst e65 (by omega) R1.1.2.1 (by rw [zt_wc (by omega)]; exact ms)
    have g4 := (fr_323_64 _ _ _ _ _ _ _ _ _ _ _ _ _ _ _ _ e4).1
    have hg : f222 1 1 1 (pm_w I1 127 0 0) J' = some (true, pm_w I1 127 0 0, J') := e222g (I := pm_w I1 127 0 0) (J := J') (c := 1) (k := 1) (by rw [zt_ws]; rfl)
    refine ⟨I4, ?_, ?_, R0_R (R0_ag R1 g4 rfl)⟩
    · unfold f323
      rw [pm_lt_eq]
      simp only [gm, (gv (pm_w I1 127 0 0)).2, gb, if_true, hg, zt_bind]
      exact e4
    · rw [g4 127 0 (by decide) (by decide), zt_ws]; rfl
theorem K11g {t9 : Nat} {x : Int32} (hRR : pm_RR r k I) : pm_KK r k (fun v b : Int32 => v = b) 1 t9 (fun I J => f184 r x I J) (fun I J => f281 x I J) I J := by
  obtain ⟨n, t, D, l0, k0, l1, k1, h⟩ := hRR
  have hC := h.1.1
  have h8 := hC.1.2.2.2.2.1
  rcases tr (x := x) (n := n) (by omega) with ⟨p, hp, rfl⟩ | hx
  · obtain ⟨I1, e1⟩ := e47 (J := J) hC.1 hC.2.1 hp hC.2.2.1 hC.2.2.2.2.1
    have g1 := fr_47 _ _ _ e1
    have R1 := R0_t0 (x := 0) (R0_ag h g1.1 rfl)
    have i5 : I1 5 = I 5 := ag_cell g1.1 (by decide) (by intro f; simp)
    refine KK_v (v := pm_oW l0 k0 D n (I 5) p) (I1 := I1) (J1 := J) ?_ aj_refl (fun J' => ?_)
    · unfold f184
      rw [e180g hp h8 hC.1.2.1, zt_xl, e1]
      rfl
    · obtain ⟨I3, e3, s3, ru3, _, _, g3⟩ := e253 (I := pm_w I1 127 0 0) (J := J') R1.1.2.2.1.1
      have R3 := R0_ag R1 g3 rfl
      rw [zt_wc (by omega), i5] at s3
      obtain ⟨I4, e4⟩ := e263 (J := J') (x := 0) R3.1.2.1.1 R3.1.2.1.2.1 hp (by omega) ru3 R3.1.2.1.2.2.1 R3.1.2.1.2.2.2.2.1 s3
      have g4 := fr_263 _ _ _ e4
      refine ⟨I4, ?_, ?_, R0_R (R0_ag R3 g4.1 rfl)⟩
      · unfold f281
        simp only [pm_lt]
        rw [e277g hp h8 R1.1.2.1.1.1 (by rw [zt_ws]; rfl)]
        simp only [zt_bind, if_true, e3, e4]
      · rw [g4.1 127 0 (by decide) (by simp), g3 127 0 (by decide) (by decide), zt_ws]; rfl
  · obtain ⟨Ia, Ib, n1, n2, n3, n4⟩ := no_s h hx
    refine KK_1 (b := 0) (Ia := Ia) (Ib := Ib) ?_ (fun J' => ?_) n3 n4
    · unfold f184
      rw [n1, zt_xr]
    · unfold f281
      simp only [pm_lt, n2, zt_bind, Bool.false_eq_true, if_false]
theorem K14g {t9 : Nat} {I : Nat → Nat → Int32} {x : Int32} (hRR : pm_RR r k I) : pm_KK r k (fun v b : Int32 => v = b) 1 t9 (fun I J => f186 r x I J) (fun I J => f284 x I J) I J := by
  obtain ⟨n, t, D, l0, k0, l1, k1, h⟩ := hRR
  have hC := h.1.1
  have h8 := hC.1.2.2.2.2.1
  rcases tr (x := x) (n := n) (by omega) with ⟨p, hp, rfl⟩ | hx
  · obtain ⟨I1, e1⟩ := e53 (J := J) (m := 600) (x := 0) (by omega) (by omega) hC hp
    have g1 := fr_53 _ _ _ e1
    have R1 := R0_t0 (x := 0) (R0_ag h g1.1 rfl)
    have i5 : I1 5 = I 5 := ag_cell g1.1 (by decide) (by intro f; simp)
    refine KK_v (v := if I 5 p = nI 2 then pm_fvw (pm_Qw (pm_lw 0 l0 l1) (pm_lw 0 k0 k1) D n (I 5) p) 600 else pm_m1) (I1 := I1) (J1 := J) ?_ aj_refl (fun J' => ?_)
    · unfold f186
      rw [e180g hp h8 hC.1.2.1, zt_xl]
      show (f53 r (nI p) (nI 0) (nI 600) I J).bind _ = _
      rw [e1, zt_bind]
    · obtain ⟨I4, e4⟩ := e285 (J := J') (x := 0) (by omega) hp (by have := h.1.2.2.1.2; exact this) R1.1.2.1 (by rw [zt_wc (by omega)]; have := R1.1.2.2.1.1; rw [zt_wc (by omega), zt_wc (by omega), i5] at this; exact this)
      have g4 := fr_285 _ _ _ e4
      refine ⟨I4, ?_, ?_, R0_R (R0_ag R1 g4.1 rfl)⟩
      · unfold f284
        rw [pm_lt_eq, e277g hp h8 R1.1.2.1.1.1 (by rw [zt_ws]; rfl), zt_bind]
        simp only [if_true]
        show (f285 (nI p) (nI 0) (pm_w I1 127 0 0) J').bind _ = _
        rw [e4, zt_bind]
      · rw [g4.1 127 0 (by decide) (by decide), zt_ws]; rfl
  · obtain ⟨Ia, Ib, n1, n2, n3, n4⟩ := no_s h hx
    refine KK_1 (b := 0) (Ia := Ia) (Ib := Ib) ?_ (fun J' => ?_) n3 n4
    · unfold f186
      rw [n1, zt_xr]
    · unfold f284
      rw [pm_lt_eq, n2, zt_bind]
      rfl
theorem K15g {t9 : Nat} {I : Nat → Nat → Int32} {x : Int32} (hRR : pm_RR r k I) : pm_KK r k (fun v b : Int32 => v = b) 1 t9 (fun I J => f187 r x I J) (fun I J => f286 x I J) I J := by
  obtain ⟨n, t, D, l0, k0, l1, k1, h⟩ := hRR
  have hC := h.1.1
  have h8 := hC.1.2.2.2.2.1
  rcases tr (x := x) (n := n) (by omega) with ⟨p, hp, rfl⟩ | hx
  · obtain ⟨I1, e1⟩ := e53 (J := J) (m := 600) (x := 1) (by omega) (by omega) hC hp
    have g1 := fr_53 _ _ _ e1
    have R1 := R0_t0 (x := 0) (R0_ag h g1.1 rfl)
    have i5 : I1 5 = I 5 := ag_cell g1.1 (by decide) (by intro f; simp)
    refine KK_v (v := if I 5 p = nI 2 then pm_fvw (pm_Qw (pm_lw 1 l0 l1) (pm_lw 1 k0 k1) D n (I 5) p) 600 else pm_m1) (I1 := I1) (J1 := J) ?_ aj_refl (fun J' => ?_)
    · unfold f187
      rw [e180g hp h8 hC.1.2.1, zt_xl]
      show (f53 r (nI p) (nI 1) (nI 600) I J).bind _ = _
      rw [e1, zt_bind]
    · obtain ⟨I4, e4⟩ := e285 (J := J') (x := 1) (by omega) hp (by have := h.1.2.2.1.2; exact this) R1.1.2.1 (by rw [zt_wc (by omega)]; have := R1.1.2.2.1.1; rw [zt_wc (by omega), zt_wc (by omega), i5] at this; exact this)
      have g4 := fr_285 _ _ _ e4
      refine ⟨I4, ?_, ?_, R0_R (R0_ag R1 g4.1 rfl)⟩
      · unfold f286
        rw [pm_lt_eq, e277g hp h8 R1.1.2.1.1.1 (by rw [zt_ws]; rfl), zt_bind]
        simp only [if_true]
        show (f285 (nI p) (nI 1) (pm_w I1 127 0 0) J').bind _ = _
        rw [e4, zt_bind]
      · rw [g4.1 127 0 (by decide) (by decide), zt_ws]; rfl
  · obtain ⟨Ia, Ib, n1, n2, n3, n4⟩ := no_s h hx
    refine KK_1 (b := 0) (Ia := Ia) (Ib := Ib) ?_ (fun J' => ?_) n3 n4
    · unfold f187
      rw [n1, zt_xr]
    · unfold f286
      rw [pm_lt_eq, n2, zt_bind]
      rfl
theorem K17g {t9 : Nat} {x y : Int32} (hRR : pm_RR r k I) : pm_KK r k (fun v b : Int32 => v = b) 1 t9 (fun I J => f189 r x y I J) (fun I J => f288 x y I J) I J := by
  obtain ⟨n, t, D, l0, k0, l1, k1, h⟩ := hRR
  have hC := h.1.1
  have h8 := hC.1.2.2.2.2.1
  have h5 := hC.1.2.2.2.2.2.1
  rcases tr (x := x) (n := t) (by omega) with ⟨b, hb, rfl⟩ | hx
  · rcases tr (x := y) (n := n) (by omega) with ⟨p, hp, rfl⟩ | hy
    · obtain ⟨I1, e1⟩ := e47 (J := J) hC.1 hC.2.1 hp hC.2.2.1 hC.2.2.2.2.1
      have g1 := fr_47 _ _ _ e1
      have R0 := R0_ag h g1.1 rfl
      have R1 := R0_t0 (x := nI 0) R0
      have i5 : I1 5 = I 5 := ag_cell g1.1 (by decide) (by intro f; simp)
      have hg := fun c J => e277g (J := J) (c := c) hp h8 R1.1.2.1.1.1 zt_ws
      have hg2 := fun c J => e279g (J := J) (c := c) hb h5 R1.1.2.1.1.2.1 zt_ws
      refine KK_v (v := pm_gv D (pm_oW l0 k0 D n (I 5) p) b p) (I1 := I1) (J1 := J) ?_ aj_refl (fun J' => ?_)
      · unfold f189
        rw [e182g hb h5 hC.1.2.2.1, zt_xl, e180g hp h8 hC.1.2.1, zt_xl, e1, zt_bind]
        simp only [e56 R0.1.1.1 R0.1.1.2.1 hp hb]
      · obtain ⟨I3, e3, s3, ru3, _, _, g3⟩ := e253 (I := pm_w I1 127 0 (nI 0)) (J := J') R1.1.2.2.1.1
        have R3 := R0_ag R1 g3 rfl
        rw [zt_wc (by omega), i5] at s3
        obtain ⟨I4, e4⟩ := e289 (J := J') (x := 0) R3.1.2.1.1 R3.1.2.1.2.1 hp hb (by omega) ru3 R3.1.2.1.2.2.1 R3.1.2.1.2.2.2.2.1 s3
        have g4 := fr_289 _ _ _ e4
        refine ⟨I4, ?_, ?_, R0_R (R0_ag R3 g4.1 rfl)⟩
        · unfold f288
          simp only [pm_lt, zt_lit, hg, hg2, zt_bind, if_true, e3, e4]
        · rw [g4.1 127 0 (by decide) (by simp), g3 127 0 (by decide) (by decide), zt_ws]
    · obtain ⟨Ia, Ib, n1, n2, n3, n4⟩ := no_sN h hy
      have z : Ia = pm_w I 0 12 (I 0 12 + nI 1) := by
        have q := n1 J
        rw [e180b hy h8 hC.1.2.1] at q
        injection q with q
        injection q with _ q
        injection q with q _
        exact q.symm
      have hg2 := fun c J => e279g (I := pm_w Ia 127 0 (nI 0)) (J := J) (c := c) hb h5 (by rw [zt_w2 (by omega), z, zt_wc (by omega)]; exact h.1.2.1.1.2.1) zt_ws
      refine KK_1 (b := nI 0) (Ia := Ia) (Ib := Ib) ?_ (fun J' => ?_) n3 n4
      · unfold f189
        rw [e182g hb h5 hC.1.2.2.1, zt_xl, n1, zt_xr]
      · unfold f288
        simp only [pm_lt, zt_lit, hg2, n2, zt_bind, Bool.false_eq_true, if_true, if_false]
  · obtain ⟨Ia, Ib, n1, n2, n3, n4⟩ := no_tN h hx
    refine KK_1 (b := nI 0) (Ia := Ia) (Ib := Ib) ?_ (fun J' => ?_) n3 n4
    · unfold f189
      rw [n1, zt_xr]
    · unfold f288
      simp only [pm_lt, zt_lit, n2, zt_bind, Bool.false_eq_true, if_false]
theorem K21g {t9 : Nat} {x : Int32} (hRR : pm_RR r k I) : pm_KK r k (fun v b : Int32 => v = b) 1 t9 (fun I J => f192 r x I J) (fun I J => f296 x I J) I J := by
  obtain ⟨n, t, D, l0, k0, l1, k1, h⟩ := hRR
  have hC := h.1.1
  have h8 := hC.1.2.2.2.2.1
  rcases tr (x := x) (n := n) (by omega) with ⟨p, hp, rfl⟩ | hx
  · have R1 := R0_t0 (x := nI 0) h
    have hg := fun c J => e277g (J := J) (c := c) hp h8 R1.1.2.1.1.1 zt_ws
    refine KK_v (v := nI (pm_msk (pm_kP D p) n)) (I1 := I) (J1 := J) ?_ aj_refl (fun J' => ⟨pm_w I 127 0 (nI 0), ?_, zt_ws, R0_R R1⟩)
    · unfold f192
      rw [e180g hp h8 hC.1.2.1, zt_xl, e84 hC.1 hC.2.1 hp, zt_bind]
    · have e := l296 (J := J') R1.1.2.1.1 R1.1.2.1.2.1 hp n 0 pm_FU (by omega) (by unfold pm_FU; omega)
      unfold f296
      simp only [pm_lt, zt_lit, hg, zt_bind, if_true]
      exact e
  · obtain ⟨Ia, Ib, n1, n2, n3, n4⟩ := no_sN h hx
    refine KK_1 (b := nI 0) (Ia := Ia) (Ib := Ib) ?_ (fun J' => ?_) n3 n4
    · unfold f192
      rw [n1, zt_xr]
    · unfold f296
      simp only [pm_lt, zt_lit, n2, zt_bind, Bool.false_eq_true, if_false]
theorem K22g {t9 : Nat} {x : Int32} (hRR : pm_RR r k I) : pm_KK r k (fun v b : Int32 => v = b) 1 t9 (fun I J => f193 r x I J) (fun I J => f297 x I J) I J := by
  obtain ⟨n, t, D, l0, k0, l1, k1, h⟩ := hRR
  have hC := h.1.1
  have h8 := hC.1.2.2.2.2.1
  rcases tr (x := x) (n := n) (by omega) with ⟨p, hp, rfl⟩ | hx
  · obtain ⟨I1, e1⟩ := e58 (J := J) hC.1 hC.2.1 hp hC.2.2.1 hC.2.2.2.2.1
    have g1 := fr_58 _ _ _ e1
    have R1 := R0_t0 (x := nI 0) (R0_ag h g1.1 rfl)
    have i5 : I1 5 = I 5 := ag_cell g1.1 (by decide) (by intro f; simp)
    have hg := fun c J => e277g (J := J) (c := c) hp h8 R1.1.2.1.1.1 zt_ws
    refine KK_v (v := pm_fa l0 k0 D n (I 5) p) (I1 := I1) (J1 := J) ?_ aj_refl (fun J' => ?_)
    · unfold f193
      rw [e180g hp h8 hC.1.2.1, zt_xl, e1, zt_bind]
    · obtain ⟨I3, e3, s3, ru3, _, _, g3⟩ := e253 (I := pm_w I1 127 0 (nI 0)) (J := J') R1.1.2.2.1.1
      have R3 := R0_ag R1 g3 rfl
      rw [zt_wc (by omega), i5] at s3
      obtain ⟨I4, e4⟩ := e263 (J := J') (x := 0) R3.1.2.1.1 R3.1.2.1.2.1 hp (by omega) ru3 R3.1.2.1.2.2.1 R3.1.2.1.2.2.2.2.1 s3
      have g4 := fr_263 _ _ _ e4
      have a0 := s3.1 p (by omega)
      by_cases c : I 5 p = nI 0
      · refine ⟨I3, ?_, ?_, R0_R R3⟩
        · unfold f297 pm_fa
          simp (disch := omega) only [pm_lt, zt_lit, zt_m1, hg, zt_bind, if_true, e3, nI_add, Nat.zero_add, zt_in, zt_gd, nI_clamp, a0, c]
        · rw [g3 127 0 (by decide) (by decide), zt_ws]
      · refine ⟨I4, ?_, ?_, R0_R (R0_ag R3 g4.1 rfl)⟩
        · unfold f297 pm_fa
          simp (disch := omega) only [pm_lt, zt_lit, zt_m1, hg, zt_bind, if_true, e3, nI_add, Nat.zero_add, zt_in, zt_gd, nI_clamp, a0, c, if_false, e4]
        · rw [g4.1 127 0 (by decide) (by simp), g3 127 0 (by decide) (by decide), zt_ws]
  · obtain ⟨Ia, Ib, n1, n2, n3, n4⟩ := no_sN h hx
    refine KK_1 (b := nI 0) (Ia := Ia) (Ib := Ib) ?_ (fun J' => ?_) n3 n4
    · unfold f193
      rw [n1, zt_xr]
    · unfold f297
      simp only [pm_lt, zt_lit, n2, zt_bind, Bool.false_eq_true, if_false]
theorem K23g {t9 : Nat} {x : Int32} (hRR : pm_RR r k I) : pm_KK r k (fun v b : Bool => v = b) 1 t9 (fun I J => f194 r x I J) (fun I J => f298 x I J) I J := by
  obtain ⟨n, t, D, l0, k0, l1, k1, h⟩ := hRR
  have hC := h.1.1
  have h8 := hC.1.2.2.2.2.1
  rcases tr (x := x) (n := n) (by omega) with ⟨p, hp, rfl⟩ | hx
  · obtain ⟨I1, e1⟩ := e58 (J := J) hC.1 hC.2.1 hp hC.2.2.1 hC.2.2.2.2.1
    have g1 := fr_58 _ _ _ e1
    have R1 := R0_t0 (x := nI 0) (R0_ag h g1.1 rfl)
    have i5 : I1 5 = I 5 := ag_cell g1.1 (by decide) (by intro f; simp)
    have hg := fun c J => e277g (J := J) (c := c) hp h8 R1.1.2.1.1.1 zt_ws
    refine KK_v (v := pm_cpy l0 k0 D n (I 5) p) (I1 := I1) (J1 := J) ?_ aj_refl (fun J' => ?_)
    · unfold f194
      rw [e180g hp h8 hC.1.2.1, zt_xl, e1, zt_bind]
      simp only [e48 (show p < 8 by omega), i5]
      unfold pm_cpy pm_fa
      by_cases c : I 5 p = nI 0
      · have h01 : ¬ nI 0 = nI 1 := by decide
        have h02 : ¬ nI 0 = nI 2 := by decide
        simp [c, h01, h02]
      · rw [if_neg c]
    · obtain ⟨I3, e3, s3, ru3, _, _, g3⟩ := e253 (I := pm_w I1 127 0 (nI 0)) (J := J') R1.1.2.2.1.1
      have R3 := R0_ag R1 g3 rfl
      rw [zt_wc (by omega), i5] at s3
      obtain ⟨I4, e4⟩ := e262 (J := J') (x := 0) R3.1.2.1.1 R3.1.2.1.2.1 hp (by omega) ru3 R3.1.2.1.2.2.1 R3.1.2.1.2.2.2.2.1 s3
      have g4 := fr_262 _ _ _ e4
      refine ⟨I4, ?_, ?_, R0_R (R0_ag R3 g4.1 rfl)⟩
      · unfold f298
        simp only [pm_lt, zt_lit, hg, zt_bind, if_true, e3, e4]
      · rw [g4.1 127 0 (by decide) (by simp), g3 127 0 (by decide) (by decide), zt_ws]
  · obtain ⟨Ia, Ib, n1, n2, n3, n4⟩ := no_sN h hx
    refine KK_1 (b := false) (Ia := Ia) (Ib := Ib) ?_ (fun J' => ?_) n3 n4
    · unfold f194
      rw [n1, zt_xr]
    · unfold f298
      simp only [pm_lt, zt_lit, n2, zt_bind, Bool.false_eq_true, if_false]
end Kg
