/-! THE LAW'S TEXT: a unit of the reference comes out so -/
theorem nm_pr {c : Nat → Nat} {L i : Nat} (h : pm_nmi c L i < 8) : pm_wb c L i 12 = false ∧ pm_wb c L i 14 = false := ⟨fst_n [16, 18, 20, 22, 24, 26, 28, 30] h (by decide), fst_n [16, 18, 20, 22, 24, 26, 28, 30] h (by decide)⟩
theorem kd_wb {c : Nat → Nat} {L i s : Nat} (hi : i ≤ L) (k : pm_kd c L i ≠ 3) (hs : 0 < pm_tl (s + 2)) : pm_wb c L i s = false := by
  cases e : pm_wb c L i s with
  | false => rfl
  | true => exact absurd (wq_k hi (wb_q.mp e) hs).1 k
theorem u_m {c : Nat → Nat} {L n : Nat} {S : Nat → Nat → Nat → (Nat → Nat) → (Nat × Nat) ⊕ (Nat × Nat × (Nat → Nat))} (hL : L ≤ 150) (hP : pm_ZP L n S) (hM : pm_ZM c L n S) {o i l : Nat} {k : Nat → Nat} (hu : pm_hU L (n + 1) o i l k) {fu dep : Nat} (hf : 4 * (L - i) + 1 ≤ fu) (hd : 4 * (6 - o) + 5 ≤ dep) : pm_lM c L i l k o (pm_uR c L S o i l k) (fun I J => g242 fu dep 2 0 0 I J) := by
  obtain ⟨h6, hi, hn, hli, hh⟩ := id hu
  obtain ⟨fu, rfl⟩ : ∃ q, fu = q + 1 := ⟨fu - 1, by omega⟩
  obtain ⟨dep, rfl⟩ : ∃ q, dep = q + 1 := ⟨dep - 1, by omega⟩
  intro I J a h ha ho hk
  have sid : i = pm_sk c (L - i) i := by rw [ha]; exact (sk_id h.2.1).symm
  obtain ⟨I1, e1, m1⟩ := MF_here (J := J) h
  rw [← ha] at e1 m1
  have g1 := (fr_226 _ _ _ e1).1
  have o1 : I1 127 7 = nI o := by rw [g1 127 7 (by decide) (by decide)]; exact ho
  have k1 := NL_f hk g1 rfl
  dsimp only
  rw [g242, v224f h, if_pos rfl, e1, zt_bind]
  dsimp only
  unfold pm_uR
  by_cases s : i < L ∧ c i = 40
  · have k4 := ((kd_4 (c := c) (L := L) (i := i) (s := 40) (by omega)).mpr s).1
    have nn : ¬ pm_nmi c L i < 8 := fun q => by
      have := (nmi_l hi q).2
      omega
    have np : pm_pri c L i = 0 := by
      unfold pm_pri
      rw [kd_wb hi (by omega) (by decide), kd_wb hi (by omega) (by decide)]
      rfl
    rw [if_neg (show ¬ pm_kd c L i = 2 by omega), if_neg nn, if_pos np, if_pos s, if_pos (show (if i < L then nI (c i) else 0) = 40 by rw [if_pos s.1, s.2]; rfl)]
    obtain ⟨fv, rfl⟩ : ∃ q, fu = q + 3 := ⟨fu - 3, by omega⟩
    obtain ⟨dv, rfl⟩ : ∃ q, dep = q + 3 := ⟨dep - 3, by omega⟩
    by_cases o6 : o = 6
    · obtain ⟨I2, e2, x2⟩ := e245b (J := J) (x := 1) m1 (by rw [o1, o6])
      rw [if_pos o6, e2, zt_bind]
      dsimp only
      rw [x242_0 x2, zt_bind]
      dsimp only
      rw [e238x x2, zt_bind]
      dsimp only
      rw [pm_lt_eq]
      refine ⟨fun q p w => ?_, fun i' l' k' w => (by cases w)⟩
      cases w
      exact ⟨_, rfl, MX_7 x2⟩
    · obtain ⟨I2, e2, m2, o2, g2⟩ := e245 (J := J) (x := 1) m1 o1 (by omega) (by omega)
      have e2' : f245 1 I1 J = some ((), I2, J) := e2
      have nb := nx1_b (c := c) s.1
      have hs1 : pm_hS L n (o + 1) (pm_nx1 c L i) l k := ⟨by omega, by omega, by omega, by omega, by omega⟩
      obtain ⟨t1, t2⟩ := hM _ _ _ _ hs1 (fv + 3) (dv + 3) (by omega) (by omega) I2 J _ m2 rfl o2 (NL_f k1 g2 rfl)
      dsimp only at t1 t2
      have pp := hP _ _ _ _ hs1
      rw [if_neg o6, e2', zt_bind]
      dsimp only
      cases w : S (o + 1) (pm_nx1 c L i) l k with
      | inl f =>
        obtain ⟨q, p⟩ := f
        obtain ⟨I3, e3, x3⟩ := t1 q p w
        rw [e3, zt_bind]
        dsimp only
        rw [e238x x3, zt_bind]
        dsimp only
        rw [pm_lt_eq]
        refine ⟨fun q p w => ?_, fun i' l' k' w => (by cases w)⟩
        cases w
        exact ⟨_, rfl, MX_7 x3⟩
      | inr t =>
        obtain ⟨i3, l3, k3⟩ := t
        rw [w] at pp
        obtain ⟨pp1, pp2, pp3, pp4⟩ := pp
        obtain ⟨I3, a3, e3, m3, hi3, o3, n3⟩ := t2 i3 l3 k3 w
        obtain ⟨u1, u2⟩ := e238 (J := J) (st := i3) (s := 41) m3 hi3 (by omega) (by omega)
        rw [e3, zt_bind]
        dsimp only [pm_uPa]
        by_cases y : i3 < L ∧ c i3 = 41
        · obtain ⟨I4, e4, m4⟩ := u1 y
          have e4' : f238 41 I3 J = some ((), I4, J) := e4
          have g4 := (fr_238 _ _ _ e4').1
          rw [e4', zt_bind, if_pos y]
          dsimp only
          rw [pm_lt_eq]
          refine ⟨fun q p w => (by cases w), fun i' l' k' w => ?_⟩
          cases w
          refine ⟨_, _, rfl, MF_7 m4, rfl, ?_, NL_7 (NL_f n3 g4 rfl)⟩
          rw [zt_ws, g4 127 7 (by decide) (by decide), o3, zt_lit 1, zt_mi (by omega), Nat.add_sub_cancel]
        · obtain ⟨I4, e4, x4⟩ := u2 y
          have e4' : f238 41 I3 J = some ((), I4, J) := e4
          rw [e4', zt_bind, if_neg y]
          dsimp only
          rw [pm_lt_eq]
          refine ⟨fun q p w => ?_, fun i' l' k' w => (by cases w)⟩
          cases w
          exact ⟨_, rfl, MX_7 x4⟩
  · have n40 : ¬ (if i < L then nI (c i) else 0) = 40 := by
      by_cases q : i < L
      · have cb := (m1.1.2.2 i q).1
        rw [if_pos q, zt_lit 40, zt_eq (by omega) (by omega)]
        exact fun w => s ⟨q, w⟩
      · rw [if_neg q]
        decide
    obtain ⟨I2, e2, m2⟩ := MF_here (J := J) m1
    rw [← sid] at e2 m2
    have g2 := (fr_226 _ _ _ e2).1
    have o2 : I2 127 7 = nI o := by rw [g2 127 7 (by decide) (by decide)]; exact o1
    have k2' := NL_f k1 g2 rfl
    have hv := v236n (I := I2) (i := i) (fun j hj => (m2.1.2.2 j hj).1)
    rw [if_neg n40, e2, zt_bind]
    dsimp only
    rw [hv]
    by_cases k2 : pm_kd c L i = 2
    · have iL := (kd_2 k2).1
      rw [decide_eq_true k2, if_pos rfl, if_pos k2]
      obtain ⟨n1, n2⟩ := e235 (J := J) (lo := 0) (hi := 999) m2 sid (by omega) (by omega)
      by_cases z : pm_nk c L 0 999 i = 0
      · obtain ⟨I3, e3, m3⟩ := n1 z
        have e3' : f235 0 999 I2 J = some (nI (pm_nv c L i), I3, J) := e3
        have g3 := (fr_235 _ _ _ e3').1
        have yv := (nk_0 z).2.2
        obtain ⟨I4, e4, n4, m4, o4⟩ := e246 (J := J) (x := 14 + pm_nv c L i) (y := 0) (z := nI (pm_nv c L i)) m3 (NL_f k2' g3 rfl) (by omega) (Or.inr (Or.inr ⟨by omega, rfl, by rw [Nat.add_sub_cancel_left]⟩))
        rw [e3', zt_bind, if_pos z]
        dsimp only
        rw [e4, zt_bind]
        refine ⟨fun q p w => (by cases w), fun i' l' k' w => ?_⟩
        cases w
        refine ⟨I4, _, rfl, m4, rfl, ?_, n4⟩
        rw [o4, g3 127 7 (by decide) (by decide), o2]
      · obtain ⟨I3, e3, x3⟩ := n2 z
        have e3' : f235 0 999 I2 J = some (0, I3, J) := e3
        rw [e3', zt_bind, if_neg z]
        dsimp only
        rw [e246x x3, zt_bind]
        refine ⟨fun q p w => ?_, fun i' l' k' w => (by cases w)⟩
        cases w
        exact ⟨I3, rfl, x3⟩
    · obtain ⟨I3, e3, m3⟩ := e229 (J := J) m2 sid
      have g3 := (fr_229 _ _ _ e3).1
      have o3 : I3 127 7 = nI o := by rw [g3 127 7 (by decide) (by decide)]; exact o2
      have k3 := NL_f k2' g3 rfl
      rw [decide_eq_false k2, if_neg (show ¬ false = true by decide), if_neg k2, e3, zt_bind]
      dsimp only
      rw [f231_t 6 (by decide) (by decide) (by decide) 12 rfl, zt_bind]
      dsimp only
      by_cases b12 : pm_wb c L i 12 = true
      · have wk := wq_k hi (wb_q.mp b12) (by decide)
        have nn : ¬ pm_nmi c L i < 8 := fun q => by
          have := (nm_pr q).1
          rw [b12] at this
          cases this
        have ep : pm_pri c L i = 1 := by unfold pm_pri; rw [if_pos b12]
        rw [if_pos ((wv_t hi 6 (by decide) (by decide) (by decide) 12 rfl).mpr b12), if_neg nn, ep, if_neg (show ¬ (1 : Nat) = 0 by decide)]
        obtain ⟨t1, t2⟩ := m_two (J := J) (x := 5) (cc := 12) (fu := fu) (dep := dep) hL hP hM hu wk.2 (kd_3.mp wk.1).1 (by omega) (by omega) (by omega) m3 o3 k3 rfl
        refine ⟨fun q p w => ?_, fun i' l' k' w => ?_⟩
        · obtain ⟨I4, e4, x4⟩ := t1 q p w
          have e4' : g242 fu dep 3 5 6 I3 J = some ((), I4, J) := e4
          rw [e4', zt_bind]
          exact ⟨I4, rfl, x4⟩
        · obtain ⟨I4, a4, e4, m4, p4, o4, n4⟩ := t2 i' l' k' w
          have e4' : g242 fu dep 3 5 6 I3 J = some ((), I4, J) := e4
          rw [e4', zt_bind]
          exact ⟨I4, a4, rfl, m4, p4, o4, n4⟩
      · obtain ⟨I4, e4, m4⟩ := e229 (J := J) m3 sid
        have g4 := (fr_229 _ _ _ e4).1
        have o4 : I4 127 7 = nI o := by rw [g4 127 7 (by decide) (by decide)]; exact o3
        have k4 := NL_f k3 g4 rfl
        rw [if_neg (fun q => b12 ((wv_t hi 6 (by decide) (by decide) (by decide) 12 rfl).mp q)), e4, zt_bind]
        dsimp only
        rw [f231_t 7 (by decide) (by decide) (by decide) 14 rfl, zt_bind]
        dsimp only
        by_cases b14 : pm_wb c L i 14 = true
        · have wk := wq_k hi (wb_q.mp b14) (by decide)
          have nn : ¬ pm_nmi c L i < 8 := fun q => by
            have := (nm_pr q).2
            rw [b14] at this
            cases this
          have ep : pm_pri c L i = 2 := by unfold pm_pri; rw [if_neg b12, if_pos b14]
          rw [if_pos ((wv_t hi 7 (by decide) (by decide) (by decide) 14 rfl).mpr b14), if_neg nn, ep, if_neg (show ¬ (2 : Nat) = 0 by decide)]
          obtain ⟨t1, t2⟩ := m_two (J := J) (x := 4) (cc := 13) (fu := fu) (dep := dep) hL hP hM hu wk.2 (kd_3.mp wk.1).1 (by omega) (by omega) (by omega) m4 o4 k4 rfl
          refine ⟨fun q p w => ?_, fun i' l' k' w => ?_⟩
          · obtain ⟨I5, e5, x5⟩ := t1 q p w
            have e5' : g242 fu dep 3 4 7 I4 J = some ((), I5, J) := e5
            rw [e5', zt_bind]
            exact ⟨I5, rfl, x5⟩
          · obtain ⟨I5, a5, e5, m5, p5, o5, n5⟩ := t2 i' l' k' w
            have e5' : g242 fu dep 3 4 7 I4 J = some ((), I5, J) := e5
            rw [e5', zt_bind]
            exact ⟨I5, a5, rfl, m5, p5, o5, n5⟩
        · have ep : pm_pri c L i = 0 := by unfold pm_pri; rw [if_neg b12, if_neg b14]
          obtain ⟨I5, e5, m5⟩ := e248 (J := J) m4 sid
          have g5 := (fr_248 _ _ _ e5).1
          have o5 : I5 127 7 = nI o := by rw [g5 127 7 (by decide) (by decide)]; exact o4
          have k5 := NL_f k4 g5 rfl
          rw [if_neg (fun q => b14 ((wv_t hi 7 (by decide) (by decide) (by decide) 14 rfl).mp q)), e5, zt_bind]
          dsimp only
          by_cases nm : pm_nmi c L i < 8
          · obtain ⟨iL, kk3⟩ := nmi_l hi nm
            obtain ⟨I6, e6, m6⟩ := e233 (J := J) m5 kk3
            have g6 := (fr_233 _ _ _ e6).1
            obtain ⟨I7, e7, n7, m7, o7⟩ := e246 (J := J) (x := pm_nmi c L i) (y := 1) (z := nI (pm_nmi c L i)) m6 (NL_f k5 g6 rfl) (by omega) (Or.inl ⟨nm, rfl, rfl⟩)
            rw [show pm_ni 8 (pm_nmi c L i) = nI (pm_nmi c L i) from if_pos nm, if_neg (show ¬ nI (pm_nmi c L i) = -1 by rw [zt_m1', zt_eqm (by omega)]; exact id), v224f m5, if_pos rfl, e6, zt_bind, if_pos nm]
            dsimp only
            rw [e7, zt_bind]
            refine ⟨fun q p w => (by cases w), fun i' l' k' w => ?_⟩
            cases w
            refine ⟨I7, _, rfl, m7, rfl, ?_, n7⟩
            rw [o7, g6 127 7 (by decide) (by decide), o5]
          · obtain ⟨I6, e6, x6⟩ := MF_wrong (J := J) (k := 1) (p := i) m5 (by omega) hi
            have e6' : f232 1 (nI i) I5 J = some ((), I6, J) := e6
            rw [show pm_ni 8 (pm_nmi c L i) = -1 from if_neg nm, if_pos rfl, m5.2.2.1, e6', zt_bind, if_neg nm, if_pos ep, if_neg s]
            dsimp only
            rw [v224x x6, if_neg (by decide)]
            refine ⟨fun q p w => ?_, fun i' l' k' w => (by cases w)⟩
            cases w
            exact ⟨I6, rfl, x6⟩
/-- and keeps the bounds -/
theorem u_p {c : Nat → Nat} {L n : Nat} {S : Nat → Nat → Nat → (Nat → Nat) → (Nat × Nat) ⊕ (Nat × Nat × (Nat → Nat))} (hP : pm_ZP L n S) {o i l : Nat} {k : Nat → Nat} (hu : pm_hU L (n + 1) o i l k) : pm_lR L i l k 1 (pm_uR c L S o i l k) := by
  obtain ⟨h6, hi, hn, hli, hh⟩ := hu
  unfold pm_uR
  by_cases k2 : pm_kd c L i = 2
  · rw [if_pos k2]
    by_cases z : pm_nk c L 0 999 i = 0
    · rw [if_pos z]
      obtain ⟨n1, n2⟩ := nxt_g (c := c) (kd_2 k2).1
      have := (nk_0 z).2.2
      exact ⟨n2, by omega, by omega, lx_p (by omega) (by omega)⟩
    · rw [if_neg z]
      exact trivial
  · rw [if_neg k2]
    by_cases nm : pm_nmi c L i < 8
    · rw [if_pos nm]
      obtain ⟨n1, n2⟩ := nxt_g (c := c) (nmi_l hi nm).1
      exact ⟨n2, by omega, by omega, lx_p (by omega) (by omega)⟩
    · rw [if_neg nm]
      by_cases pr : pm_pri c L i = 0
      · rw [if_pos pr]
        by_cases s : i < L ∧ c i = 40
        · rw [if_pos s]
          by_cases o6 : o = 6
          · rw [if_pos o6]; exact trivial
          · rw [if_neg o6]
            have nb := nx1_b (c := c) s.1
            have pp := hP (o + 1) (pm_nx1 c L i) l k ⟨by omega, by omega, by omega, by omega, by omega⟩
            cases w : S (o + 1) (pm_nx1 c L i) l k with
            | inl f => exact trivial
            | inr t =>
              obtain ⟨i3, l3, k3⟩ := t
              rw [w] at pp
              obtain ⟨pp1, pp2, pp3, pp4⟩ := pp
              dsimp only [pm_uPa]
              by_cases y : i3 < L ∧ c i3 = 41
              · rw [if_pos y]
                have nc := nx1_b (c := c) y.1
                exact ⟨nc.2, by omega, by omega, pp4⟩
              · rw [if_neg y]; exact trivial
        · rw [if_neg s]; exact trivial
      · rw [if_neg pr]
        by_cases o6 : o = 6
        · rw [if_pos o6]; exact trivial
        · rw [if_neg o6]
          obtain ⟨iL, _⟩ := pri_l hi pr
          obtain ⟨nb1, nb2⟩ := nxt_g (c := c) iL
          have pb := pri_b c L i
          by_cases s : pm_nxt c L i < L ∧ c (pm_nxt c L i) = 91
          · rw [if_pos s]
            have nb := nx1_b (c := c) s.1
            have pp := hP (o + 1) (pm_nx1 c L (pm_nxt c L i)) l k ⟨by omega, by omega, by omega, by omega, by omega⟩
            cases w : S (o + 1) (pm_nx1 c L (pm_nxt c L i)) l k with
            | inl f => exact trivial
            | inr t =>
              obtain ⟨i3, l3, k3⟩ := t
              rw [w] at pp
              obtain ⟨pp1, pp2, pp3, pp4⟩ := pp
              have hts3 := pp4.2.2.2
              dsimp only [pm_uA]
              by_cases y : i3 < L ∧ c i3 = 44
              · rw [if_pos y]
                have nc := nx1_b (c := c) y.1
                have pq := hP (o + 1) (pm_nx1 c L i3) l3 k3 ⟨by omega, by omega, by omega, by omega, by omega⟩
                cases w2 : S (o + 1) (pm_nx1 c L i3) l3 k3 with
                | inl f => exact trivial
                | inr t =>
                  obtain ⟨i5, l5, k5⟩ := t
                  rw [w2] at pq
                  obtain ⟨pq1, pq2, pq3, pq4⟩ := pq
                  dsimp only [pm_uB]
                  by_cases y2 : i5 < L ∧ c i5 = 93
                  · rw [if_pos y2]
                    have nd := nx1_b (c := c) y2.1
                    exact ⟨nd.2, by omega, by omega, lx_o (lx_t pp4 pq4) (by omega) (by omega)⟩
                  · rw [if_neg y2]; exact trivial
              · rw [if_neg y]; exact trivial
          · rw [if_neg s]; exact trivial
