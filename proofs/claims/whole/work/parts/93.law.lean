/-! THE LAW: its call -/
section Lf
variable {I : Nat → Nat → Int32} {J : Nat → Nat → Int64} {r k : Nat}
theorem ML_o {w v l m : Nat} {k0 : Nat → Nat} {I' : Nat → Nat → Int32} (h : pm_ML v m k0 I) (hm : m ≤ 150) (hl : l ≤ 150) (hv : v < 2) (hw : w < 2) (hne : v ≠ w) (h1 : ∀ j, j ≠ w → I' 138 j = I 138 j) (h2 : ∀ j, (j < 150 * w ∨ 150 * w + l ≤ j) → I' 136 j = I 136 j ∧ I' 137 j = I 137 j) : pm_ML v m k0 I' := by
  unfold pm_ML
  rw [h1 v hne]
  rcases h with h | ⟨a, b, c⟩
  · exact Or.inl h
  · refine Or.inr ⟨a, b, fun i hi => ?_⟩
    obtain ⟨e1, e2⟩ := h2 (150 * v + i) (by omega)
    rw [e1, e2]
    exact c i hi
theorem K2 {x y : Int32} (hRR : pm_RR r k I) : pm_KI r k (fun I J => f175 x y I J) (fun I J => f240 x y I J) I J := by
  obtain ⟨n, t, D, l0, k0, l1, k1, h⟩ := hRR
  obtain ⟨c, T, hT, t1, t2, hc1, hc2⟩ := tp_of h.2.2.1
  have i150 : ((150 : Int32)).toInt = 150 := by decide
  have hk := h.2.1.1
  obtain ⟨Ia, Ib, n1, n2, n3, n4, n5⟩ := il_x (c := 1) h (Or.inl rfl)
  have n3' : ∀ J, f222 0 1 1 (pm_w Ia 127 0 0) J = some (false, Ib, J) := n3
  have ea : Ia = pm_w I 0 13 (I 0 13 + nI 1) := by
    have := n1 J
    rw [e174b] at this
    cases this
    rfl
  rcases tr (x := x) (n := 2) (by omega) with ⟨w, hw, rfl⟩ | hx
  · by_cases bad : y.toInt < 0 ∨ (150 : Int) < y.toInt ∨ (T : Int) < y.toInt
    · refine Or.inr ⟨Ia, J, ?_, aj_refl, fun J' => ⟨0, Ib, ?_, n4, n5⟩⟩
      · show f175 (nI w) y I J = _
        have e := e173b (J := J) (M := 150) t1 hT (by omega) bad
        have e' : f173 y 150 I J = some (.inr 2, pm_w I 0 13 (I 0 13 + nI 1), J) := e
        have q : w = 0 ∨ w = 1 := by omega
        unfold f175
        rcases q with rfl | rfl
        · rw [if_pos (show nI 0 = 0 from rfl), e174g, zt_xl, e', zt_xr, ea]
        · rw [if_neg (show ¬ nI 1 = 0 by decide), if_pos (show nI 1 = 1 from rfl), e174g, zt_xl, e', zt_xr, ea]
      · show f240 (nI w) y Ia J' = _
        have v : v241 (nI w) 0 1 (pm_w Ia 127 0 0) = true := v241g (a := 0) (b := 1) (by omega) (by omega) (by omega)
        unfold f240
        rw [pm_lt_eq, v, if_pos rfl, n3', zt_bind, zt_w2 (by omega), n2, t2, nI_toInt (by omega), i150]
        dsimp only
        rw [if_neg (show ¬ false = true by decide)]
        by_cases a : y.toInt < 0
        · rw [if_pos a]
        · rw [if_neg a]
          by_cases b : (T : Int) < y.toInt
          · rw [if_pos b]
          · rw [if_neg b, if_pos (by omega)]
    · obtain ⟨L, hL31, rfl⟩ := zt_i0 (x := y) (fun q => bad (Or.inl q))
      rw [nI_toInt hL31] at bad
      have hLT : L ≤ T := by omega
      have h150 : L ≤ 150 := by omega
      obtain ⟨a1, a2⟩ := c_law (J := J) hw t1 hT hLT h150 hc1
      cases z : pm_lA c L with
      | inl f =>
        obtain ⟨q, p⟩ := f
        obtain ⟨I1, e1, o1, o8, g1⟩ := a1 q p z
        refine Or.inl ⟨nI q - 10, I1, J, e1, aj_refl, fun J' => ?_⟩
        have c127 : I1 127 = I 127 := ag_cell g1 (by decide) (by intro f; simp)
        have c129 : I1 129 = I 129 := ag_cell g1 (by decide) (by intro f; simp)
        obtain ⟨b1, _⟩ := m_law (I := I1) (J := J') hw (by rw [c127]; exact t2) hT hLT h150 (by rw [c129]; exact hc2)
        obtain ⟨I2, e2, p8, p2, p0, q6, q7, q8, g2⟩ := b1 q p z
        have G : pm_ag [95, 134, 135, 136, 137, 138] [(1, 1), (1, 2), (1, 3), (1, 4), (1, 5), (1, 6), (1, 7), (1, 8), (94, 2), (127, 0), (127, 2), (127, 3), (127, 4), (127, 5), (127, 6), (127, 7), (127, 8), (127, 27)] I I2 := ag_trans (ag_mono g1 (by simp) (zt_subF rfl)) g2 (by simp) (zt_subF rfl)
        obtain ⟨P, F⟩ := nl_ag G rfl
        have c1 : I2 1 = I1 1 := ag_cell g2 (by decide) (by intro f; simp)
        refine ⟨I2, e2, p0, R0_R (R0_lw (k' := k) h P F ?_ ?_ ?_ ?_ h.1.1.2.2.2.2.1 h.1.1.2.2.2.2.2 ?_ (tp_new (p := nI p) ?_ p2 ?_ p8) ?_ ?_ ?_)⟩
        · exact CL_ag h.1.1.2.2.1 (ag_cell G (by decide) (by intro f; simp)) (ag_cell G (by decide) (by intro f; simp))
        · exact CL_ag h.1.1.2.2.2.1 (ag_cell G (by decide) (by intro f; simp)) (ag_cell G (by decide) (by intro f; simp))
        · exact ML_cell h.1.2.1.2.2.1 (by rw [q8, ag_cell g1 (by decide) (by intro f; simp)]) (by rw [q6, ag_cell g1 (by decide) (by intro f; simp)]) (by rw [q7, ag_cell g1 (by decide) (by intro f; simp)])
        · exact ML_cell h.1.2.1.2.2.2.1 (by rw [q8, ag_cell g1 (by decide) (by intro f; simp)]) (by rw [q6, ag_cell g1 (by decide) (by intro f; simp)]) (by rw [q7, ag_cell g1 (by decide) (by intro f; simp)])
        · unfold pm_Rbk
          rw [ag_cell G (a := k) (by simp; omega) (by intro f; simp; omega), ag_cell G (a := k + 1) (by simp; omega) (by intro f; simp; omega), ag_cell G (a := k + 2) (by simp; omega) (by intro f; simp; omega), ag_cell G (a := 147) (by decide) (by intro f; simp), G 127 45 (by decide) (by decide)]
          exact h.2.1
        · rw [c1]; exact o1
        · rw [c1]; exact o8
        · rw [G 0 11 (by decide) (by decide), G 127 33 (by decide) (by decide)]; exact h.2.2.2.1
        · rw [G 0 12 (by decide) (by decide), G 128 0 (by decide) (by decide)]; exact h.2.2.2.2.1
        · rw [G 0 13 (by decide) (by decide), G 128 1 (by decide) (by decide)]; exact h.2.2.2.2.2
      | inr f =>
        obtain ⟨l, kk⟩ := f
        obtain ⟨I1, e1, o1, o8, CL1, g1⟩ := a2 l kk z
        obtain ⟨wf1, lp⟩ := lA_wf h150 z
        refine Or.inl ⟨1, I1, J, e1, aj_refl, fun J' => ?_⟩
        have c127 : I1 127 = I 127 := ag_cell g1 (by simp; omega) (by intro f; simp; omega)
        have c129 : I1 129 = I 129 := ag_cell g1 (by simp; omega) (by intro f; simp; omega)
        obtain ⟨_, b2⟩ := m_law (I := I1) (J := J') hw (by rw [c127]; exact t2) hT hLT h150 (by rw [c129]; exact hc2)
        obtain ⟨I2, e2, p8, p2, p0, q8, q8o, qm, qo, g2⟩ := b2 l kk z
        have G : pm_ag [95, 7 + 3 * w, 134, 135, 136, 137, 138] [(1, 1), (1, 2), (1, 3), (1, 4), (1, 5), (1, 6), (1, 7), (1, 8), (94, 2), (6 + 3 * w, 2), (127, 0), (127, 2), (127, 3), (127, 4), (127, 5), (127, 6), (127, 7), (127, 8), (127, 27)] I I2 := ag_trans (ag_mono g1 (by simp) (by simp)) g2 (by simp) (by simp)
        have qw : w = 0 ∨ w = 1 := by omega
        obtain ⟨P, F⟩ := nl_ag G (by rcases qw with rfl | rfl <;> rfl)
        have c1 : I2 1 = I1 1 := ag_cell g2 (by decide) (by intro f; simp)
        have c138 : I1 138 = I 138 := ag_cell g1 (by simp; omega) (by intro f; simp; omega)
        have c136 : I1 136 = I 136 := ag_cell g1 (by simp; omega) (by intro f; simp; omega)
        have c137 : I1 137 = I 137 := ag_cell g1 (by simp; omega) (by intro f; simp; omega)
        rw [c138] at q8o
        rw [c136, c137] at qo
        have CL2 : pm_CL (6 + 3 * w) l kk I2 := CL_ag CL1 (ag_cell g2 (by simp; omega) (by intro f; simp; omega)) (ag_cell g2 (by simp; omega) (by intro f; simp; omega))
        have ML2 : pm_ML w l kk I2 := Or.inr ⟨lp, q8, qm⟩
        have bk : pm_Rbk k I2 := by
          unfold pm_Rbk
          rw [ag_cell G (a := k) (by simp; omega) (by intro f; simp; omega), ag_cell G (a := k + 1) (by simp; omega) (by intro f; simp; omega), ag_cell G (a := k + 2) (by simp; omega) (by intro f; simp; omega), ag_cell G (a := 147) (by simp; omega) (by intro f; simp; omega), G 127 45 (by simp; omega) (by simp)]
          exact h.2.1
        have tp : pm_Rtp I2 := tp_new (p := -1) (by rw [c1]; exact o1) p2 (by rw [c1]; exact o8) p8
        have k1' : I2 0 11 = I2 127 33 := by rw [G 0 11 (by simp; omega) (by simp), G 127 33 (by simp; omega) (by simp)]; exact h.2.2.2.1
        have k2' : I2 0 12 = I2 128 0 := by rw [G 0 12 (by simp; omega) (by simp), G 128 0 (by simp; omega) (by simp)]; exact h.2.2.2.2.1
        have k3' : I2 0 13 = I2 128 1 := by rw [G 0 13 (by simp; omega) (by simp), G 128 1 (by simp; omega) (by simp)]; exact h.2.2.2.2.2
        refine ⟨I2, e2, p0, ?_⟩
        rcases qw with rfl | rfl
        · exact R0_R (R0_lw (k' := k) h P F CL2 (CL_ag h.1.1.2.2.2.1 (ag_cell G (by decide) (by intro f; simp)) (ag_cell G (by decide) (by intro f; simp))) ML2 (ML_o h.1.2.1.2.2.2.1 h.1.1.2.2.2.2.2.1 wf1.1 (by omega) (by omega) (by omega) q8o qo) wf1 h.1.1.2.2.2.2.2 bk tp k1' k2' k3')
        · exact R0_R (R0_lw (k' := k) h P F (CL_ag h.1.1.2.2.1 (ag_cell G (by decide) (by intro f; simp)) (ag_cell G (by decide) (by intro f; simp))) CL2 (ML_o h.1.2.1.2.2.1 h.1.1.2.2.2.2.1.1 wf1.1 (by omega) (by omega) (by omega) q8o qo) ML2 h.1.1.2.2.2.2.1 wf1 bk tp k1' k2' k3')
  · refine Or.inr ⟨Ia, J, ?_, aj_refl, fun J' => ⟨0, Ib, ?_, n4, n5⟩⟩
    · show f175 x y I J = _
      have x0 : ¬ x = 0 := fun e => by rw [e] at hx; revert hx; decide
      have x1 : ¬ x = 1 := fun e => by rw [e] at hx; revert hx; decide
      unfold f175
      rw [if_neg x0, if_neg x1, n1, zt_xr]
    · show f240 x y Ia J' = _
      have v : v241 x 0 1 (pm_w Ia 127 0 0) = false := v241b (a := 0) (b := 1) (by omega) (by omega) (by omega)
      unfold f240
      rw [pm_lt_eq, v, if_neg (show ¬ false = true by decide), n3', zt_bind]
      dsimp only
      rw [if_neg (show ¬ false = true by decide)]
end Lf
