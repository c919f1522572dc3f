/-! THE LAW'S TEXT: a unit of the class comes out so -/
theorem u_c {c : Nat → Nat} {L n : Nat} {S : Nat → Nat → Nat → (Nat → Nat) → (Nat × Nat) ⊕ (Nat × Nat × (Nat → Nat))} (hL : L ≤ 150) (hP : pm_ZP L n S) (hC : pm_ZC c L n S) {o i l : Nat} {k : Nat → Nat} (hu : pm_hU L (n + 1) o i l k) {fu dep : Nat} (hf : 4 * (L - i) + 1 ≤ fu) (hd : 4 * (6 - o) + 5 ≤ dep) : pm_lC c L i l k (pm_uR c L S o i l k) (fun I J => g21 94 fu dep 2 (nI o) 0 I J) := by
  have i6 : ((6 : Int32)).toInt = 6 := by decide
  obtain ⟨h6, hi, hn, hli, hh⟩ := hu
  obtain ⟨fu, rfl⟩ : ∃ q, fu = q + 1 := ⟨fu - 1, by omega⟩
  obtain ⟨dep, rfl⟩ : ∃ q, dep = q + 1 := ⟨dep - 1, by omega⟩
  intro I J h hk
  have e4 := e24 (J := J) h hi
  have e5 := e25 (J := J) h hi
  have vn := v140f h
  dsimp only
  unfold pm_uR
  by_cases k2 : pm_kd c L i = 2
  · have iL := (kd_2 k2).1
    rw [decide_eq_true k2] at vn
    rw [g21, e4, zt_bind]
    dsimp only
    rw [e5, zt_bind]
    dsimp only
    rw [vn, if_pos rfl, if_pos k2]
    obtain ⟨n1, n2⟩ := e134 (J := J) (lo := 0) (hi := 999) h hi (by omega) (by omega)
    by_cases z : pm_nk c L 0 999 i = 0
    · obtain ⟨I1, e1, f1⟩ := n1 z
      have e1' : f134 0 999 I J = some (nI (pm_nv c L i), I1, J) := e1
      have g1 := (fr_134 _ _ _ e1').1
      obtain ⟨I2, e2, c2, g2⟩ := e17 (J := J) (x := 14 + pm_nv c L i) (CL_f hk g1 rfl) (by omega)
      have f2 : pm_CF c L (pm_nxt c L i) I2 := CF_ag f1 (ag_cell g2 (by decide) (by intro f; simp)) (ag_cell g2 (by decide) (by intro f; simp))
      rw [e1', zt_bind]
      dsimp only
      rw [show (14 : Int32) + nI (pm_nv c L i) = nI (14 + pm_nv c L i) from nI_add 14 _, e2, zt_bind, if_pos z]
      refine ⟨fun q p w => (by cases w), fun i' l' k' w => ?_⟩
      cases w
      exact ⟨I2, rfl, f2, c2⟩
    · obtain ⟨I1, e1, x1⟩ := n2 z
      have e1' : f134 0 999 I J = some (0, I1, J) := e1
      obtain ⟨I2, e2, x2⟩ := e17x (J := J) (x := 14 + 0) x1
      rw [e1', zt_bind]
      dsimp only
      rw [e2, zt_bind, if_neg z]
      refine ⟨fun q p w => ?_, fun i' l' k' w => (by cases w)⟩
      cases w
      exact ⟨I2, rfl, x2⟩
  · rw [decide_eq_false k2] at vn
    rw [if_neg k2]
    by_cases nm : pm_nmi c L i < 8
    · obtain ⟨iL, k3⟩ := nmi_l hi nm
      rw [show pm_ni 8 (pm_nmi c L i) = nI (pm_nmi c L i) from if_pos nm] at e5
      obtain ⟨I1, e1, f1⟩ := CF_step (J := J) h hi
      have g1 := (fr_128 _ _ _ e1).1
      obtain ⟨I2, e2, c2, g2⟩ := e17 (J := J) (x := pm_nmi c L i) (CL_f hk g1 rfl) (by omega)
      have f2 : pm_CF c L (pm_nxt c L i) I2 := CF_ag f1 (ag_cell g2 (by decide) (by intro f; simp)) (ag_cell g2 (by decide) (by intro f; simp))
      rw [g21, e4, zt_bind]
      dsimp only
      rw [e5, zt_bind]
      dsimp only
      rw [vn, if_neg (show ¬ false = true by decide), if_neg (show ¬ nI (pm_nmi c L i) = -1 by rw [zt_m1', zt_eqm (by omega)]; exact id), e1, zt_bind]
      dsimp only
      rw [e2, zt_bind, if_pos nm]
      refine ⟨fun q p w => (by cases w), fun i' l' k' w => ?_⟩
      cases w
      exact ⟨I2, rfl, f2, c2⟩
    · rw [show pm_ni 8 (pm_nmi c L i) = -1 from if_neg nm] at e5
      rw [if_neg nm]
      by_cases pr : pm_pri c L i = 0
      · rw [if_pos pr] at e4
        have vp := v136f (s := 40) h hi (by omega)
        have vp' : v136 40 I = decide (i < L ∧ c i = 40) := vp
        rw [if_pos pr, g21, e4, zt_bind]
        dsimp only
        rw [e5, zt_bind]
        dsimp only
        rw [vn, if_neg (show ¬ false = true by decide), if_pos rfl, if_pos rfl, vp']
        by_cases s : i < L ∧ c i = 40
        · rw [decide_eq_true s, if_pos rfl, if_pos s, i6, nI_toInt (by omega)]
          by_cases o6 : o = 6
          · obtain ⟨I1, e1, x1⟩ := e133 (J := J) (k := 3) h (by omega)
            have e1' : f133 3 I J = some ((), I1, J) := e1
            rw [if_neg (show ¬ ((o : Nat) : Int) < 6 by omega), if_pos o6, e1', zt_bind]
            refine ⟨fun q p w => ?_, fun i' l' k' w => (by cases w)⟩
            cases w
            exact ⟨I1, rfl, x1⟩
          · obtain ⟨I1, e1, f1⟩ := e128s (J := J) h s (by omega)
            have g1 := (fr_128 _ _ _ e1).1
            have nb := nx1_b (c := c) s.1
            have hs1 : pm_hS L n (o + 1) (pm_nx1 c L i) l k := ⟨by omega, by omega, by omega, by omega, by omega⟩
            obtain ⟨s1, s2⟩ := hC _ _ _ _ hs1 fu dep (by omega) (by omega) I1 J f1 (CL_f hk g1 rfl)
            dsimp only at s1 s2
            have pp := hP _ _ _ _ hs1
            rw [if_pos (show ((o : Nat) : Int) < 6 by omega), if_neg o6, if_pos rfl, e1, zt_bind, nI_1]
            dsimp only
            cases w : S (o + 1) (pm_nx1 c L i) l k with
            | inl f =>
              obtain ⟨q, p⟩ := f
              obtain ⟨I2, e2, x2⟩ := s1 q p w
              obtain ⟨I3, e3, x3⟩ := e135x (J := J) (s := 41) x2
              rw [e2, zt_bind]
              dsimp only
              rw [e3, zt_bind]
              refine ⟨fun q p w => ?_, fun i' l' k' w => (by cases w)⟩
              cases w
              exact ⟨I3, rfl, x3⟩
            | inr t =>
              obtain ⟨i3, l3, k3⟩ := t
              rw [w] at pp
              obtain ⟨I2, e2, f2, c2⟩ := s2 i3 l3 k3 w
              obtain ⟨a1, a2⟩ := e135s (J := J) (s := 41) f2 pp.1 (by omega)
              rw [e2, zt_bind]
              dsimp only [pm_uPa]
              by_cases y : i3 < L ∧ c i3 = 41
              · obtain ⟨I3, e3, f3⟩ := a1 y
                have e3' : f135 41 I2 J = some ((), I3, J) := e3
                have g3 := (fr_135 _ _ _ e3').1
                rw [e3', zt_bind, if_pos y]
                refine ⟨fun q p w => (by cases w), fun i' l' k' w => ?_⟩
                cases w
                exact ⟨I3, rfl, f3, CL_f c2 g3 rfl⟩
              · obtain ⟨I3, e3, x3⟩ := a2 y
                have e3' : f135 41 I2 J = some ((), I3, J) := e3
                rw [e3', zt_bind, if_neg y]
                refine ⟨fun q p w => ?_, fun i' l' k' w => (by cases w)⟩
                cases w
                exact ⟨I3, rfl, x3⟩
        · obtain ⟨I1, e1, x1⟩ := e133 (J := J) (k := 1) h (by omega)
          have e1' : f133 1 I J = some ((), I1, J) := e1
          rw [decide_eq_false s, if_neg (show ¬ false = true by decide), if_neg s, e1', zt_bind]
          refine ⟨fun q p w => ?_, fun i' l' k' w => (by cases w)⟩
          cases w
          exact ⟨I1, rfl, x1⟩
      · obtain ⟨iL, k3⟩ := pri_l hi pr
        have pb := pri_b c L i
        rw [if_neg pr] at e4
        have nm1 : ¬ nI (11 + pm_pri c L i) = -1 := by
          rw [zt_m1', zt_eqm (by omega)]
          exact id
        rw [if_neg pr, g21, e4, zt_bind]
        dsimp only
        rw [e5, zt_bind]
        dsimp only
        rw [vn, if_neg (show ¬ false = true by decide), if_pos rfl, if_neg nm1, i6, nI_toInt (by omega)]
        by_cases o6 : o = 6
        · obtain ⟨I1, e1, x1⟩ := e133 (J := J) (k := 3) h (by omega)
          have e1' : f133 3 I J = some ((), I1, J) := e1
          rw [if_neg (show ¬ ((o : Nat) : Int) < 6 by omega), if_pos o6, e1', zt_bind]
          refine ⟨fun q p w => ?_, fun i' l' k' w => (by cases w)⟩
          cases w
          exact ⟨I1, rfl, x1⟩
        · obtain ⟨I1, e1, f1⟩ := CF_step (J := J) h hi
          have g1 := (fr_128 _ _ _ e1).1
          obtain ⟨nb1, nb2⟩ := nxt_g (c := c) iL
          obtain ⟨b1, b2⟩ := e135s (J := J) (i := pm_nxt c L i) (s := 91) f1 nb2 (by omega)
          obtain ⟨fv, rfl⟩ : ∃ q, fu = q + 3 := ⟨fu - 3, by omega⟩
          obtain ⟨dv, rfl⟩ : ∃ q, dep = q + 3 := ⟨dep - 3, by omega⟩
          rw [if_pos (show ((o : Nat) : Int) < 6 by omega), if_neg o6, if_neg nm1, e1, zt_bind, nI_1]
          dsimp only
          by_cases s : pm_nxt c L i < L ∧ c (pm_nxt c L i) = 91
          · obtain ⟨I2, e2, f2⟩ := b1 s
            have e2' : f135 91 I1 J = some ((), I2, J) := e2
            have g2 := (fr_135 _ _ _ e2').1
            have nb := nx1_b (c := c) s.1
            have hs1 : pm_hS L n (o + 1) (pm_nx1 c L (pm_nxt c L i)) l k := ⟨by omega, by omega, by omega, by omega, by omega⟩
            have ck2 := CL_f (CL_f hk g1 rfl) g2 rfl
            obtain ⟨s1, s2⟩ := hC _ _ _ _ hs1 (fv + 3) (dv + 3) (by omega) (by omega) I2 J f2 ck2
            dsimp only at s1 s2
            have pp := hP _ _ _ _ hs1
            rw [e2', zt_bind, if_pos s]
            dsimp only
            cases w : S (o + 1) (pm_nx1 c L (pm_nxt c L i)) l k with
            | inl f =>
              obtain ⟨q, p⟩ := f
              obtain ⟨I3, e3, x3⟩ := s1 q p w
              obtain ⟨I4, e4', x4⟩ := xc_b (J := J) (fu := fv) (dep := dv) (cc := nI (11 + pm_pri c L i)) (o := nI (o + 1)) x3
              rw [e3, zt_bind]
              refine ⟨fun q p w => ?_, fun i' l' k' w => (by cases w)⟩
              cases w
              exact ⟨I4, e4', x4⟩
            | inr t =>
              obtain ⟨i3, l3, k3⟩ := t
              rw [w] at pp
              obtain ⟨pp1, pp2, pp3, pp4⟩ := pp
              obtain ⟨I3, e3, f3, c3⟩ := s2 i3 l3 k3 w
              obtain ⟨a1, a2⟩ := e135s (J := J) (s := 44) f3 pp1 (by omega)
              rw [e3, zt_bind]
              dsimp only [pm_uA]
              by_cases y : i3 < L ∧ c i3 = 44
              · obtain ⟨I4, e4', f4⟩ := a1 y
                have e4'' : f135 44 I3 J = some ((), I4, J) := e4'
                have g4 := (fr_135 _ _ _ e4'').1
                have nc := nx1_b (c := c) y.1
                have hts3 := pp4.2.2.2
                have hs2 : pm_hS L n (o + 1) (pm_nx1 c L i3) l3 k3 := ⟨by omega, by omega, by omega, by omega, by omega⟩
                obtain ⟨t1, t2⟩ := hC _ _ _ _ hs2 (fv + 3) (dv + 3) (by omega) (by omega) I4 J f4 (CL_f c3 g4 rfl)
                dsimp only at t1 t2
                have pq := hP _ _ _ _ hs2
                rw [e4'', zt_bind, if_pos y]
                dsimp only
                cases w2 : S (o + 1) (pm_nx1 c L i3) l3 k3 with
                | inl f =>
                  obtain ⟨q, p⟩ := f
                  obtain ⟨I5, e5', x5⟩ := t1 q p w2
                  obtain ⟨I6, e6, x6⟩ := xc_a (J := J) (cc := nI (11 + pm_pri c L i)) x5
                  rw [e5', zt_bind]
                  refine ⟨fun q p w => ?_, fun i' l' k' w => (by cases w)⟩
                  cases w
                  exact ⟨I6, e6, x6⟩
                | inr t =>
                  obtain ⟨i5, l5, k5⟩ := t
                  rw [w2] at pq
                  obtain ⟨pq1, pq2, pq3, pq4⟩ := pq
                  obtain ⟨I5, e5', f5, c5⟩ := t2 i5 l5 k5 w2
                  obtain ⟨d1, d2⟩ := e135s (J := J) (s := 93) f5 pq1 (by omega)
                  rw [e5', zt_bind]
                  dsimp only [pm_uB]
                  by_cases y2 : i5 < L ∧ c i5 = 93
                  · obtain ⟨I6, e6, f6⟩ := d1 y2
                    have e6' : f135 93 I5 J = some ((), I6, J) := e6
                    have g6 := (fr_135 _ _ _ e6').1
                    obtain ⟨I7, e7, c7, g7⟩ := e17 (J := J) (x := 11 + pm_pri c L i) (CL_f c5 g6 rfl) (by omega)
                    have f7 : pm_CF c L (pm_nx1 c L i5) I7 := CF_ag f6 (ag_cell g7 (by decide) (by intro f; simp)) (ag_cell g7 (by decide) (by intro f; simp))
                    rw [e6', zt_bind, if_pos y2]
                    dsimp only
                    rw [e7, zt_bind]
                    refine ⟨fun q p w => (by cases w), fun i' l' k' w => ?_⟩
                    cases w
                    exact ⟨I7, rfl, f7, c7⟩
                  · obtain ⟨I6, e6, x6⟩ := d2 y2
                    have e6' : f135 93 I5 J = some ((), I6, J) := e6
                    obtain ⟨I7, e7, x7⟩ := e17x (J := J) (x := nI (11 + pm_pri c L i)) x6
                    rw [e6', zt_bind, if_neg y2]
                    dsimp only
                    rw [e7, zt_bind]
                    refine ⟨fun q p w => ?_, fun i' l' k' w => (by cases w)⟩
                    cases w
                    exact ⟨I7, rfl, x7⟩
              · obtain ⟨I4, e4', x4⟩ := a2 y
                have e4'' : f135 44 I3 J = some ((), I4, J) := e4'
                obtain ⟨I5, e5', x5⟩ := x21_0 (J := J) (fu := fv) (dep := dv) (z := nI (o + 1)) (y := 0) x4
                obtain ⟨I6, e6, x6⟩ := xc_a (J := J) (cc := nI (11 + pm_pri c L i)) x5
                rw [e4'', zt_bind, if_neg y]
                dsimp only
                rw [e5', zt_bind]
                refine ⟨fun q p w => ?_, fun i' l' k' w => (by cases w)⟩
                cases w
                exact ⟨I6, e6, x6⟩
          · obtain ⟨I2, e2, x2⟩ := b2 s
            have e2' : f135 91 I1 J = some ((), I2, J) := e2
            obtain ⟨I3, e3, x3⟩ := x21_0 (J := J) (fu := fv) (dep := dv) (z := nI (o + 1)) (y := 0) x2
            obtain ⟨I4, e4', x4⟩ := xc_b (J := J) (fu := fv) (dep := dv) (cc := nI (11 + pm_pri c L i)) (o := nI (o + 1)) x3
            rw [e2', zt_bind, if_neg s]
            dsimp only
            rw [e3, zt_bind]
            refine ⟨fun q p w => ?_, fun i' l' k' w => (by cases w)⟩
            cases w
            exact ⟨I4, e4', x4⟩
