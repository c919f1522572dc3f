/-! THE BOOK: a line, the class -/
section Bp
variable {I : Nat → Nat → Int32} {J : Nat → Nat → Int64} {k : Nat}
theorem e11 {c : Nat → Nat} {L i m : Nat} {X Y : Nat → Nat} (h : pm_CF c L i I) (hi : i ≤ L) (hB : pm_BK k m X Y I) : (∀ q p, pm_bln c L X m i = .inl (q, p) → ∃ I', f11 k I J = some ((), I', J) ∧ pm_CX q p I') ∧ (∀ v y n, pm_bln c L X m i = .inr (v, y, n) → ∃ I', f11 k I J = some ((), I', J) ∧ pm_CF c L n I' ∧ pm_BK k (m + 1) (fun j => if j = m then v else X j) (fun j => if j = m then y else Y j) I') := by
  have i499 : ((499 : Int32)).toInt = 499 := by decide
  have i8 : ((8 : Int32)).toInt = 8 := by decide
  obtain ⟨p3, p4, p5, p6⟩ := h.2.1
  obtain ⟨hk, m8, hm, hx⟩ := id hB
  have kc := kd_c c L i
  unfold f11 v140 pm_bln
  by_cases k2 : pm_kd c L i = 2
  · rw [if_pos (show (if I 1 3 = 2 then true else false) = true by rw [p3, k2]; rfl), p6]
    have ev : pm_vl c L i = Nat.min 1000000 (pm_nv c L i) := by unfold pm_vl pm_nv; rw [if_pos k2]
    have eb : pm_vl c L i ≤ 1000000 := by rw [ev]; exact Nat.min_le_left _ _
    have en : pm_nk c L 0 499 i = (if 499 < pm_nv c L i then 2 else 0) := by unfold pm_nk pm_nv; rw [if_pos k2, if_neg (by omega)]
    by_cases a : 499 < pm_nv c L i
    · have a2 : 499 < pm_vl c L i := by
        rw [ev]
        rcases Nat.le_total 1000000 (pm_nv c L i) with q | q
        · rw [show Nat.min 1000000 (pm_nv c L i) = 1000000 from Nat.min_eq_left q]; omega
        · rw [show Nat.min 1000000 (pm_nv c L i) = pm_nv c L i from Nat.min_eq_right q]; omega
      obtain ⟨I2, e2, x2⟩ := e133 (J := J) (k := 2) h (by omega)
      have e2' : f133 2 I J = some ((), I2, J) := e2
      rw [en, if_pos a, if_pos (by decide), i499, nI_toInt (by omega), if_pos (by omega), e2', zt_bind]
      refine ⟨fun q p w => ?_, fun v y n w => by cases w⟩
      cases w
      exact ⟨I2, rfl, x2⟩
    · have a2 : pm_vl c L i = pm_nv c L i := vl_n k2 (by omega)
      rw [en, if_neg a, if_neg (by decide), i499, a2, nI_toInt (by omega), if_neg (show ¬ (499 : Int) < (pm_nv c L i : Nat) by omega), e12 hB (by omega), zt_bind]
      dsimp only
      by_cases t : pm_tol X (pm_nv c L i) 0 m = true
      · obtain ⟨I2, e2, x2⟩ := e133 (J := J) (k := 2) h (by omega)
        have e2' : f133 2 I J = some ((), I2, J) := e2
        rw [if_pos t, if_pos t, e2', zt_bind]
        refine ⟨fun q p w => ?_, fun v y n w => by cases w⟩
        cases w
        exact ⟨I2, rfl, x2⟩
      · rw [if_neg t, if_neg t, hm, i8, nI_toInt (by omega)]
        by_cases f : m = 8
        · obtain ⟨I2, e2, x2⟩ := e133 (J := J) (k := 3) h (by omega)
          have e2' : f133 3 I J = some ((), I2, J) := e2
          rw [if_pos f, if_neg (show ¬ ((m : Nat) : Int) < 8 by omega), e2', zt_bind]
          refine ⟨fun q p w => ?_, fun v y n w => by cases w⟩
          cases w
          exact ⟨I2, rfl, x2⟩
        · rw [if_neg f, if_pos (show ((m : Nat) : Int) < 8 by omega), zt_pw (by omega) (by omega), pm_lt_eq, p6, a2]
          have h3 : pm_CF c L i (pm_w I (k + 1) m (nI (pm_nv c L i))) := CF_w h (by omega)
          obtain ⟨I3, e3, f3⟩ := CF_step (J := J) h3 hi
          have g3 := (fr_128 _ _ _ e3).1
          have fb := nx_b (c := c) hi
          obtain ⟨n1, n2⟩ := e134 (J := J) (lo := 0) (hi := 999) f3 fb (by omega) (by omega)
          have k3 : I3 k 2 = nI m := by rw [ag_cell g3 (by simp) (by intro f; simp; omega), zt_wc (by omega)]; exact hm
          rw [e3, zt_bind]
          dsimp only
          rw [k3]
          by_cases z : pm_nk c L 0 999 (pm_nxt c L i) = 0
          · obtain ⟨I4, e4, f4⟩ := n1 z
            have e4' : f134 0 999 I3 J = some (nI (pm_nv c L (pm_nxt c L i)), I4, J) := e4
            have g4 := (fr_134 _ _ _ e4').1
            have c4 : ∀ a : Nat, 2 < a → I4 a = I3 a := fun a ha => ag_cell g4 (by simp) (by intro f; simp; omega)
            have c3 : ∀ a : Nat, 2 < a → I3 a = pm_w I (k + 1) m (nI (pm_nv c L i)) a := fun a ha => ag_cell g3 (by simp) (by intro f; simp; omega)
            have y9 := (nk_0 z).2.2
            rw [if_neg (show ¬ pm_nk c L 0 999 (pm_nxt c L i) ≠ 0 by omega), e4', zt_bind]
            dsimp only
            rw [zt_pw (by omega) (by omega), pm_lt_eq, pm_lt_eq, zt_wc (by omega), c4 k (by omega), k3, nI_1]
            have f5 : pm_CF c L (pm_nxt c L (pm_nxt c L i)) (pm_w (pm_w I4 (k + 2) m (nI (pm_nv c L (pm_nxt c L i)))) k 2 (nI (m + 1))) := CF_w (CF_w f4 (by omega)) (by omega)
            obtain ⟨s1, s2⟩ := e135 (J := J) (s := 59) f5 (nx_b fb) (by omega)
            have k4 := kd_4 (c := c) (L := L) (i := pm_nxt c L (pm_nxt c L i)) (s := 59) (by omega)
            by_cases w : pm_nxt c L (pm_nxt c L i) < L ∧ c (pm_nxt c L (pm_nxt c L i)) = 59
            · obtain ⟨I6, e6, f6⟩ := s1 (k4.mpr w)
              have e6' : f135 59 (pm_w (pm_w I4 (k + 2) m (nI (pm_nv c L (pm_nxt c L i)))) k 2 (nI (m + 1))) J = some ((), I6, J) := e6
              have g6 := (fr_135 _ _ _ e6').1
              have c6 : ∀ a : Nat, 2 < a → I6 a = pm_w (pm_w I4 (k + 2) m (nI (pm_nv c L (pm_nxt c L i)))) k 2 (nI (m + 1)) a := fun a ha => ag_cell g6 (by simp) (by intro f; simp; omega)
              rw [if_pos w, e6', zt_bind]
              refine ⟨fun q p w => (by cases w), fun v y n w => ?_⟩
              cases w
              refine ⟨I6, rfl, f6, hk, by omega, by rw [c6 k (by omega), zt_ws], fun j hj => ?_⟩
              rw [c6 (k + 1) (by omega), c6 (k + 2) (by omega), zt_wc (by omega), zt_wc (by omega), zt_wc (by omega), c4 (k + 1) (by omega), c3 (k + 1) (by omega)]
              dsimp only
              by_cases jm : j = m
              · subst jm
                rw [if_pos rfl, if_pos rfl, zt_ws, zt_ws]
                exact ⟨by omega, by omega, rfl, rfl⟩
              · rw [if_neg jm, if_neg jm, zt_w2 (by omega), zt_w2 (by omega), c4 (k + 2) (by omega), c3 (k + 2) (by omega), zt_wc (by omega)]
                exact hx j (by omega)
            · obtain ⟨I6, e6, f6⟩ := s2 (fun q => w (k4.mp q))
              have e6' : f135 59 (pm_w (pm_w I4 (k + 2) m (nI (pm_nv c L (pm_nxt c L i)))) k 2 (nI (m + 1))) J = some ((), I6, J) := e6
              rw [if_neg w, e6', zt_bind]
              refine ⟨fun q p w => ?_, fun v y n w => by cases w⟩
              cases w
              exact ⟨I6, rfl, f6⟩
          · obtain ⟨I4, e4, f4⟩ := n2 z
            have e4' : f134 0 999 I3 J = some (0, I4, J) := e4
            rw [if_pos z, e4', zt_bind]
            dsimp only
            rw [zt_pw (by omega) (by omega), pm_lt_eq, pm_lt_eq]
            obtain ⟨I6, e6, f6⟩ := e135x (J := J) (s := 59) (CX_w (a := k) (f := 2) (x := pm_w I4 (k + 2) m 0 k 2 + 1) (CX_w (a := k + 2) (f := m) (x := 0) f4 (by omega)) (by omega))
            rw [e6, zt_bind]
            refine ⟨fun q p w => ?_, fun v y n w => by cases w⟩
            cases w
            exact ⟨I6, rfl, f6⟩
  · have en : pm_nk c L 0 499 i = 1 := by unfold pm_nk; rw [if_neg k2]
    obtain ⟨I2, e2, x2⟩ := e133 (J := J) (k := 1) h (by omega)
    have e2' : f133 1 I J = some ((), I2, J) := e2
    rw [if_neg (show ¬ (if I 1 3 = 2 then true else false) = true by rw [p3, if_neg (by rw [zt_lit 2, zt_eq (by omega) (by omega)]; exact k2)]; decide), en, if_pos (by decide), e2', zt_bind]
    refine ⟨fun q p w => ?_, fun v y n w => by cases w⟩
    cases w
    exact ⟨I2, rfl, x2⟩
end Bp
