/-! WORK: the call comes out alike -/
section Wh
variable {I : Nat → Nat → Int32} {J : Nat → Nat → Int64} {r k : Nat}
theorem K3 {x : Int32} (hRR : pm_RR r k I) : pm_KI r k (fun I J => f176 r x I J) (fun I J => f249 x I J) I J := by
  obtain ⟨n, t, D, l0, k0, l1, k1, h⟩ := hRR
  obtain ⟨c, T, hT, t1, t2, hc1, hc2⟩ := tp_of h.2.2.1
  have i150 : ((150 : Int32)).toInt = 150 := by decide
  have i16 : ((16 : Int32)).toInt = 16 := by decide
  have hk := h.2.1.1
  have hr := h.1.1.1.1
  have n8 := h.1.1.1.2.2.2.2.1
  by_cases bad : x.toInt < 0 ∨ (150 : Int) < x.toInt ∨ (T : Int) < x.toInt
  · obtain ⟨Ia, Ib, n1, n2, n3, n4, n5⟩ := il_x (c := 1) h (Or.inl rfl)
    have n3' : ∀ J, f222 0 1 1 (pm_w Ia 127 0 0) J = some (false, Ib, J) := n3
    have ea : Ia = pm_w I 0 13 (I 0 13 + nI 1) := by
      have := n1 J
      rw [e174b] at this
      cases this
      rfl
    refine Or.inr ⟨Ia, J, ?_, aj_refl, fun J' => ⟨0, Ib, ?_, n4, n5⟩⟩
    · show f176 r x I J = _
      have e := e173b (J := J) (M := 150) t1 hT (by omega) bad
      have e' : f173 x 150 I J = some (.inr 2, pm_w I 0 13 (I 0 13 + nI 1), J) := e
      unfold f176
      rw [e', zt_xr, ea]
    · show f249 x Ia J' = _
      unfold f249
      rw [pm_lt_eq, n3', zt_bind, zt_w2 (by omega), n2, t2, nI_toInt (by omega), i150]
      dsimp only
      rw [if_neg (show ¬ false = true by decide)]
      by_cases a : x.toInt < 0
      · rw [if_pos a]
      · rw [if_neg a]
        by_cases b : (T : Int) < x.toInt
        · rw [if_pos b]
        · rw [if_neg b, if_pos (by omega)]
  · obtain ⟨L, hL31, rfl⟩ := zt_i0 (x := x) (fun q => bad (Or.inl q))
    rw [nI_toInt hL31] at bad
    have hLT : L ≤ T := by omega
    have hL : L ≤ 150 := by omega
    obtain ⟨⟨hCQ, hMQ, hrow, har⟩, hbk, htp, w11, w12, w13⟩ := id h
    obtain ⟨⟨a, a16, a23, a32, arows⟩, mi, e1, e23, e58, emages⟩ := id har
    by_cases full : a = 16
    · have gate : f173 (nI L) 150 I J = some (.inl (), I, J) := e173g (M := 150) t1 hT hLT hL (by omega)
      refine Or.inl ⟨-20, pm_w (pm_w (pm_w I 1 7 0) 1 8 (-1)) 1 1 0, J, ?_, aj_refl, fun J' => ?_⟩
      · show f176 r (nI L) I J = _
        unfold f176
        rw [gate, zt_xl, a23, nI_toInt (by omega), i16, if_neg (by omega)]
        rfl
      · obtain ⟨I1, hI1⟩ : ∃ I1, I1 = pm_w (pm_w (pm_w I 1 7 0) 1 8 (-1)) 1 1 0 := ⟨_, rfl⟩
        have o1 : ∀ b, b ≠ 1 → I1 b = I b := fun b hb => by rw [hI1, zt_wc hb, zt_wc hb, zt_wc hb]
        rw [← hI1]
        obtain ⟨I2, e2, m2, z2, _⟩ := e223 (I := pm_w I1 127 0 0) (J := J') (c := c) (L := L) (by omega) (fun i hi => by rw [zt_wc (by omega), o1 129 (by decide)]; exact hc2 i (by omega))
        have g2 := (fr_223 _ _ _ e2).1
        have eg : f222 1 1 1 (pm_w I1 127 0 0) J' = some (true, pm_w I1 127 0 0, J') := e222g (by rw [zt_ws]; rfl)
        have G1 : pm_ag [] [(1, 1), (1, 7), (1, 8), (127, 0), (127, 2), (127, 3), (127, 4), (127, 5), (127, 7), (127, 8)] I (pm_w I2 127 8 (-1)) := by
          refine ag_w (ag_trans (ag_w (I := I1) ?_ (by simp)) g2 (by simp) (zt_subF rfl)) (by simp)
          rw [hI1]
          exact ag_w (ag_w (ag_w ag_refl (by simp)) (by simp)) (by simp)
        refine ⟨pm_w I2 127 8 (-1), ?_, ?_, ?_⟩
        · show f249 (nI L) I1 J' = _
          unfold f249
          rw [pm_lt_eq, if_neg (show ¬ (nI L).toInt < 0 by rw [nI_toInt (by omega)]; omega), zt_w2 (by omega), o1 127 (by decide), t2, if_neg (show ¬ (nI T).toInt < (nI L).toInt by rw [nI_toInt (by omega), nI_toInt (by omega)]; omega), if_neg (show ¬ (150 : Int32).toInt < (nI L).toInt by rw [nI_toInt (by omega), i150]; omega), eg, zt_bind]
          dsimp only
          rw [if_pos rfl, e2, zt_bind]
          dsimp only
          rw [if_pos (show I2 127 32 = 16 by rw [g2 127 32 (by decide) (by decide), zt_w2 (by omega), o1 127 (by decide), a32, full]; rfl), e239f m2, zt_bind]
        · rw [zt_w2 (by omega), g2 127 0 (by decide) (by decide), zt_ws]; rfl
        · obtain ⟨P, F⟩ := nw_ag G1 rfl
          have c1 : ∀ f, pm_w I2 127 8 (-1) 1 f = I1 1 f := fun f => by rw [zt_wc (by decide), ag_cell g2 (by decide) (by intro f; simp), zt_wc (by decide)]
          refine R0_R (R0_nw (k' := k) h P F (Rbk_ag hbk G1 rfl) (tp_new (p := -1) ?_ ?_ ?_ zt_ws) ?_ ?_ ?_)
          · rw [c1, hI1, zt_ws]; rfl
          · rw [zt_w2 (by omega), z2]; rfl
          · rw [c1, hI1, zt_w2 (by omega), zt_ws]
          · rw [G1 0 11 (by decide) (by decide), G1 127 33 (by decide) (by decide)]; exact w11
          · rw [G1 0 12 (by decide) (by decide), G1 128 0 (by decide) (by decide)]; exact w12
          · rw [G1 0 13 (by decide) (by decide), G1 128 1 (by decide) (by decide)]; exact w13
    · obtain ⟨u1, u2⟩ := c_work (J := J) hCQ hrow.2 (show a < 16 by omega) a23 t1 hT hLT hL hc1
      cases z : pm_tl2 c L n t (L + 1) (pm_sk c L 0) 0 (fun _ => (0, 0, 0, 0)) with
      | inl f =>
        obtain ⟨q, p⟩ := f
        obtain ⟨I1, d1, o1, o8, g1⟩ := u1 q p z
        refine Or.inl ⟨nI q - 10, I1, J, d1, aj_refl, fun J' => ?_⟩
        have c127 : I1 127 = I 127 := ag_cell g1 (by decide) (by intro f; simp)
        have c129 : I1 129 = I 129 := ag_cell g1 (by decide) (by intro f; simp)
        have c143 : I1 143 = I 143 := ag_cell g1 (by decide) (by intro f; simp)
        obtain ⟨v1, _⟩ := m_work (I := I1) (J := J') (MQ_ag hMQ g1 (by decide)) hrow.2 (by rw [c143]; exact hrow.1) (show a < 16 by omega) (by rw [c127]; exact a32) (by rw [c127]; exact t2) hT hLT hL (by rw [c129]; exact hc2)
        obtain ⟨I2, d2, p8, p2, p0, g2⟩ := v1 q p z
        have G : pm_ag [98, 99, 100, 101, 141] [(1, 1), (1, 2), (1, 3), (1, 4), (1, 5), (1, 6), (1, 7), (1, 8), (97, 4), (127, 0), (127, 2), (127, 3), (127, 4), (127, 5), (127, 6), (127, 7), (127, 8), (127, 31)] I I2 := ag_trans (ag_mono g1 (by simp) (zt_subF rfl)) g2 (by simp) (zt_subF rfl)
        obtain ⟨P, F⟩ := nw_ag G rfl
        have c1 : I2 1 = I1 1 := ag_cell g2 (by decide) (by intro f; simp)
        refine ⟨I2, d2, p0, R0_R (R0_nw (k' := k) h P F (Rbk_ag hbk G rfl) (tp_new (p := nI p) (by rw [c1]; exact o1) p2 (by rw [c1]; exact o8) p8) ?_ ?_ ?_)⟩
        · rw [G 0 11 (by decide) (by decide), G 127 33 (by decide) (by decide)]; exact w11
        · rw [G 0 12 (by decide) (by decide), G 128 0 (by decide) (by decide)]; exact w12
        · rw [G 0 13 (by decide) (by decide), G 128 1 (by decide) (by decide)]; exact w13
      | inr f =>
        obtain ⟨m, X⟩ := f
        obtain ⟨I1, d1, o1, o8, s5, s11, s23, s25, g1⟩ := u2 m X z
        refine Or.inl ⟨nI (pm_wk l0 k0 D n m X (I 5)).2.2.1, I1, J, d1, aj_refl, fun J' => ?_⟩
        have cc : ∀ b, b ≠ 0 → b ≠ 1 → b ≠ 5 → b ≠ 8 → b ≠ 12 → b ≠ 23 → b ≠ 25 + a → b ≠ 97 → (b < 98 ∨ 101 < b) → I1 b = I b := fun b h0 h1 h2 h3 h4 h5 h6 h7 h8 => ag_cell g1 (by simp; omega) (by intro f; simp; omega)
        have c127 : I1 127 = I 127 := cc 127 (by omega) (by omega) (by omega) (by omega) (by omega) (by omega) (by omega) (by omega) (by omega)
        have c129 : I1 129 = I 129 := cc 129 (by omega) (by omega) (by omega) (by omega) (by omega) (by omega) (by omega) (by omega) (by omega)
        have c143 : I1 143 = I 143 := cc 143 (by omega) (by omega) (by omega) (by omega) (by omega) (by omega) (by omega) (by omega) (by omega)
        have Q1 : pm_MQ n t D l0 k0 l1 k1 I1 := by
          obtain ⟨x1, x2, x3, x4, x5, x6⟩ := hMQ
          exact ⟨MR_cell x1 (by rw [c127]) (by rw [c127]) (by rw [c127]) (cc _ (by omega) (by omega) (by omega) (by omega) (by omega) (by omega) (by omega) (by omega) (by omega)) (cc _ (by omega) (by omega) (by omega) (by omega) (by omega) (by omega) (by omega) (by omega) (by omega)), x2, ML_cell x3 (cc _ (by omega) (by omega) (by omega) (by omega) (by omega) (by omega) (by omega) (by omega) (by omega)) (cc _ (by omega) (by omega) (by omega) (by omega) (by omega) (by omega) (by omega) (by omega) (by omega)) (cc _ (by omega) (by omega) (by omega) (by omega) (by omega) (by omega) (by omega) (by omega) (by omega)), ML_cell x4 (cc _ (by omega) (by omega) (by omega) (by omega) (by omega) (by omega) (by omega) (by omega) (by omega)) (cc _ (by omega) (by omega) (by omega) (by omega) (by omega) (by omega) (by omega) (by omega) (by omega)) (cc _ (by omega) (by omega) (by omega) (by omega) (by omega) (by omega) (by omega) (by omega) (by omega)), x5, x6⟩
        obtain ⟨_, v2⟩ := m_work (I := I1) (J := J') Q1 hrow.2 (by rw [c143]; exact hrow.1) (show a < 16 by omega) (by rw [c127]; exact a32) (by rw [c127]; exact t2) hT hLT hL (by rw [c129]; exact hc2)
        obtain ⟨I2, d2, p8, p2, p0, pms, pinv, p33, p32, pin, pout, g2⟩ := v2 m X z
        have kk : ∀ b, b < 127 → I2 b = I1 b := fun b hb => ag_cell g2 (by simp; omega) (by intro f; simp; omega)
        have c0 : ∀ f, f ≠ 11 → I2 0 f = I 0 f := fun f hf => by rw [kk 0 (by omega), g1 0 f (by simp; omega) (by simp; omega)]
        have c128 : I2 128 = I 128 := by rw [ag_cell g2 (by simp) (by intro f; simp), cc 128 (by omega) (by omega) (by omega) (by omega) (by omega) (by omega) (by omega) (by omega) (by omega)]
        have c23 : ∀ f, f ≠ 3 → I2 23 f = I 23 f := fun f hf => by rw [kk 23 (by omega), g1 23 f (by simp; omega) (by simp; omega)]
        have c145 : I1 145 = I 145 := cc 145 (by omega) (by omega) (by omega) (by omega) (by omega) (by omega) (by omega) (by omega) (by omega)
        have c156 : I2 156 = I 156 := by rw [ag_cell g2 (by simp) (by intro f; simp), cc 156 (by omega) (by omega) (by omega) (by omega) (by omega) (by omega) (by omega) (by omega) (by omega)]
        refine ⟨I2, d2, p0, n, t, D, l0, k0, l1, k1, ⟨CQ_cell hCQ (fun b hb => by rw [kk b (by omega)]; exact cc b (by omega) (by omega) (by omega) (by omega) (by omega) (by omega) (by omega) (by omega) (by omega)), MQ_ag Q1 g2 (by decide), ⟨by rw [kk 5 (by omega), s5]; exact pms, by rw [kk 5 (by omega), s5]; exact pinv⟩, ⟨a + 1, by omega, by rw [kk 23 (by omega)]; exact s23, p32, fun i hi => ?_⟩, mi, e1, by rw [c23 4 (by decide)]; exact e23, ?_, fun j hj => ?_⟩, ?_, tp_new (p := -1) (by rw [kk 1 (by omega)]; exact o1) p2 (by rw [kk 1 (by omega)]; exact o8) p8, ?_, ?_, ?_⟩
        · by_cases ia : i = a
          · subst ia
            refine row_eq n8 hrow (fun j hj => ?_) (fun j hj => ?_)
            · rw [kk _ (by omega)]; exact s25 j hj
            · rw [pin j hj, c143]
          · refine row_eq n8 (arows i (by omega)) (fun j hj => ?_) (fun j hj => ?_)
            · rw [kk _ (by omega), cc _ (by omega) (by omega) (by omega) (by omega) (by omega) (by omega) (by omega) (by omega) (by omega)]
            · rw [pout _ (by omega), c145]
        · rw [g2 127 58 (by decide) (by decide), c127]; exact e58
        · obtain ⟨s, x1, x2, x3, x4, x5⟩ := emages j hj
          refine ⟨s, x1, by rw [kk 93 (by omega), cc 93 (by omega) (by omega) (by omega) (by omega) (by omega) (by omega) (by omega) (by omega) (by omega)]; exact x2, by rw [c156]; exact x3, row_c x4 (by rw [kk _ (by omega), cc _ (by omega) (by omega) (by omega) (by omega) (by omega) (by omega) (by omega) (by omega) (by omega)]) (by rw [c156]), fun i hi => row_c (x5 i hi) (by rw [kk _ (by omega), cc _ (by omega) (by omega) (by omega) (by omega) (by omega) (by omega) (by omega) (by omega) (by omega)]) (by rw [c156])⟩
        · unfold pm_Rbk
          rw [kk k (by omega), kk (k + 1) (by omega), kk (k + 2) (by omega), cc k (by omega) (by omega) (by omega) (by omega) (by omega) (by omega) (by omega) (by omega) (by omega), cc (k + 1) (by omega) (by omega) (by omega) (by omega) (by omega) (by omega) (by omega) (by omega) (by omega), cc (k + 2) (by omega) (by omega) (by omega) (by omega) (by omega) (by omega) (by omega) (by omega) (by omega), ag_cell g2 (a := 147) (by simp) (by intro f; simp), cc 147 (by omega) (by omega) (by omega) (by omega) (by omega) (by omega) (by omega) (by omega) (by omega), g2 127 45 (by decide) (by decide), c127]
          exact hbk
        · rw [kk 0 (by omega), s11, p33]
        · rw [c0 12 (by decide), c128]; exact w12
        · rw [c0 13 (by decide), c128]; exact w13
end Wh
