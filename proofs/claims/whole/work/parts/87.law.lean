/-! THE LAW'S TEXT: a unit, the reference -/
section Lc
variable {I : Nat → Nat → Int32} {J : Nat → Nat → Int64}
theorem NL_f {l : Nat} {k : Nat → Nat} {I' : Nat → Nat → Int32} {A : List Nat} {F : List (Nat × Nat)} (h : pm_NL l k I) (g : pm_ag A F I I') (ok : (A.all (fun a => !decide (a = 127) && !decide (a = 134) && !decide (a = 135)) && F.all (fun q => !decide (q = (127, 27)) && !decide (q.1 = 134) && !decide (q.1 = 135))) = true) : pm_NL l k I' := by
  rw [Bool.and_eq_true, List.all_eq_true, List.all_eq_true] at ok
  obtain ⟨o1, o2⟩ := ok
  have e1 : I' 127 27 = I 127 27 := g 127 27 (fun m => by have := o1 _ m; simp at this) (fun m => by have := o2 _ m; simp at this)
  have e2 : I' 134 = I 134 := ag_cell g (fun m => by have := o1 _ m; simp at this) (fun f m => by have := o2 _ m; simp at this)
  have e3 : I' 135 = I 135 := ag_cell g (fun m => by have := o1 _ m; simp at this) (fun f m => by have := o2 _ m; simp at this)
  unfold pm_NL
  rw [e1, e2, e3]
  exact h
theorem MX_7 {q p : Nat} {x : Int32} (h : pm_MX q p I) : pm_MX q p (pm_w I 127 7 x) := by
  unfold pm_MX
  rw [zt_w2 (by omega), zt_w2 (by omega)]
  exact h
theorem MF_7 {c : Nat → Nat} {L a : Nat} {x : Int32} (h : pm_MF c L a I) : pm_MF c L a (pm_w I 127 7 x) := by
  exact MF_g h (by omega)
theorem NL_7 {l : Nat} {k : Nat → Nat} {x : Int32} (h : pm_NL l k I) : pm_NL l k (pm_w I 127 7 x) := NL_f (A := []) (F := [(127, 7)]) h (ag_w ag_refl (by simp)) rfl
theorem e245 {c : Nat → Nat} {L i o x : Nat} (h : pm_MF c L i I) (ho : I 127 7 = nI o) (h6 : o < 6) (hx : i + x ≤ L) : ∃ I', f245 (nI x) I J = some ((), I', J) ∧ pm_MF c L (i + x) I' ∧ I' 127 7 = nI (o + 1) ∧ pm_ag [] [(127, 4), (127, 7)] I I' := by
  have n6 : ¬ nI o = 6 := by rw [zt_lit 6, zt_eq (by omega) (by omega)]; omega
  have e : f245 (nI x) I J = some ((), pm_w (pm_w I 127 4 (nI (i + x))) 127 7 (nI (o + 1)), J) := by
    unfold f245
    rw [v224f h, if_pos rfl, ho, if_neg n6, if_pos rfl, h.2.2.1, nI_add, pm_lt_eq, pm_lt_eq, zt_w2 (by omega), ho, nI_1]
  refine ⟨_, e, MF_7 ⟨MT_w h.1 (by omega), hx, zt_ws, by rw [zt_w2 (by omega)]; exact h.2.2.2⟩, zt_ws, ag_w (ag_w ag_refl (by simp)) (by simp)⟩
theorem e245b {c : Nat → Nat} {L i : Nat} {x : Int32} (h : pm_MF c L i I) (ho : I 127 7 = nI 6) : ∃ I', f245 x I J = some ((), I', J) ∧ pm_MX 3 i I' := by
  obtain ⟨I1, e1, x1⟩ := MF_wrong (J := J) (k := 3) (p := i) h (by omega) h.2.1
  have e1' : f232 3 (nI i) I J = some ((), I1, J) := e1
  refine ⟨_, ?_, MX_7 (x := I1 127 7 + 1) x1⟩
  unfold f245
  rw [v224f h, if_pos rfl, ho, if_pos (show nI 6 = 6 from rfl), h.2.2.1, e1', zt_bind]
  dsimp only
  rw [v224x x1, if_neg (show ¬ false = true by decide), pm_lt_eq]
theorem xm_a {q p : Nat} {x2 : Int32} (h : pm_MX q p I) : ∃ I', (f238 93 I J).bind (fun (ov21, I22, J23) => pm_lt (pm_w I22 127 7 ((I22 127 7) - 1)) (fun I25 => (f246 x2 0 I25 J23).bind (fun (ov26, I27, J28) => some ((), I27, J28)))) = some ((), I', J) ∧ pm_MX q p I' := by
  refine ⟨_, ?_, MX_7 (x := I 127 7 - 1) h⟩
  rw [e238x h, zt_bind]
  dsimp only
  rw [pm_lt_eq, e246x (MX_7 h), zt_bind]
theorem xm_b {q p fu dep : Nat} {x2 : Int32} (h : pm_MX q p I) : ∃ I', (f238 44 I J).bind (fun (ov13, I14, J15) => (g242 (fu + 3) (dep + 3) 0 0 0 I14 J15).bind (fun (ov17, I18, J19) => (f238 93 I18 J19).bind (fun (ov21, I22, J23) => pm_lt (pm_w I22 127 7 ((I22 127 7) - 1)) (fun I25 => (f246 x2 0 I25 J23).bind (fun (ov26, I27, J28) => some ((), I27, J28)))))) = some ((), I', J) ∧ pm_MX q p I' := by
  obtain ⟨I1, e1, x1⟩ := xm_a (J := J) (x2 := x2) h
  refine ⟨I1, ?_, x1⟩
  rw [e238x h, zt_bind]
  dsimp only
  rw [x242_0 h, zt_bind]
  exact e1
/-- two behind a word -/
theorem m_two {c : Nat → Nat} {L n : Nat} {S : Nat → Nat → Nat → (Nat → Nat) → (Nat × Nat) ⊕ (Nat × Nat × (Nat → Nat))} (hL : L ≤ 150) (hP : pm_ZP L n S) (hM : pm_ZM c L n S) {o i l x cc : Nat} {k : Nat → Nat} (hu : pm_hU L (n + 1) o i l k) (hx : pm_stp c L i = i + x) (hiL : i < L) (hcc : 8 ≤ cc ∧ cc < 14) {fu dep : Nat} (hf : 4 * (L - i) ≤ fu) (hd : 4 * (6 - o) + 4 ≤ dep) (h : pm_MF c L i I) (ho : I 127 7 = nI o) (hk : pm_NL l k I) {r : (Nat × Nat) ⊕ (Nat × Nat × (Nat → Nat))} (hr : r = if o = 6 then .inl (3, i) else if pm_nxt c L i < L ∧ c (pm_nxt c L i) = 91 then pm_uA c L cc (S (o + 1)) (S (o + 1) (pm_nx1 c L (pm_nxt c L i)) l k) else .inl (1, pm_nxt c L i)) : (∀ q p, r = .inl (q, p) → ∃ I', g242 fu dep 3 (nI x) (nI (cc - 6)) I J = some ((), I', J) ∧ pm_MX q p I') ∧ (∀ i' l' k', r = .inr (i', l', k') → ∃ I' a', g242 fu dep 3 (nI x) (nI (cc - 6)) I J = some ((), I', J) ∧ pm_MF c L a' I' ∧ i' = pm_sk c (L - a') a' ∧ I' 127 7 = nI o ∧ pm_NL l' k' I') := by
  subst hr
  obtain ⟨h6, hi, hn, hli, hh⟩ := hu
  obtain ⟨fu, rfl⟩ : ∃ q, fu = q + 4 := ⟨fu - 4, by omega⟩
  obtain ⟨dep, rfl⟩ : ∃ q, dep = q + 4 := ⟨dep - 4, by omega⟩
  have sb := stp_b (c := c) hi
  have g3 : g242 (fu + 4) (dep + 4) 3 (nI x) (nI (cc - 6)) I J = (f245 (nI x) I J).bind (fun (ov1, I2, J3) => (f238 91 I2 J3).bind (fun (ov5, I6, J7) => (g242 (fu + 3) (dep + 3) 0 0 0 I6 J7).bind (fun (ov9, I10, J11) => (f238 44 I10 J11).bind (fun (ov13, I14, J15) => (g242 (fu + 3) (dep + 3) 0 0 0 I14 J15).bind (fun (ov17, I18, J19) => (f238 93 I18 J19).bind (fun (ov21, I22, J23) => pm_lt (pm_w I22 127 7 ((I22 127 7) - 1)) (fun I25 => (f246 (nI (cc - 6)) 0 I25 J23).bind (fun (ov26, I27, J28) => some ((), I27, J28))))))))) := by
    rw [g242]
  rw [g3]
  by_cases o6 : o = 6
  · obtain ⟨I1, e1, x1⟩ := e245b (J := J) (x := nI x) h (by rw [ho, o6])
    obtain ⟨I2, e2, x2⟩ := xm_b (J := J) (fu := fu) (dep := dep) (x2 := nI (cc - 6)) x1
    rw [if_pos o6, e1, zt_bind]
    dsimp only
    rw [e238x x1, zt_bind]
    dsimp only
    rw [x242_0 x1, zt_bind]
    refine ⟨fun q p w => ?_, fun i' l' k' w => (by cases w)⟩
    cases w
    exact ⟨I2, e2, x2⟩
  · obtain ⟨I1, e1, m1, o1, g1⟩ := e245 (J := J) (x := x) h ho (by omega) (by omega)
    rw [← hx] at m1
    obtain ⟨s1, s2⟩ := e238 (J := J) (st := pm_nxt c L i) (s := 91) m1 rfl (by omega) (by omega)
    obtain ⟨nb1, nb2⟩ := nxt_g (c := c) hiL
    rw [if_neg o6, e1, zt_bind]
    dsimp only
    by_cases s : pm_nxt c L i < L ∧ c (pm_nxt c L i) = 91
    · obtain ⟨I2, e2, m2⟩ := s1 s
      have e2' : f238 91 I1 J = some ((), I2, J) := e2
      have g2 := (fr_238 _ _ _ e2').1
      have nb := nx1_b (c := c) s.1
      have hs1 : pm_hS L n (o + 1) (pm_nx1 c L (pm_nxt c L i)) l k := ⟨by omega, by omega, by omega, by omega, by omega⟩
      obtain ⟨t1, t2⟩ := hM _ _ _ _ hs1 (fu + 3) (dep + 3) (by omega) (by omega) I2 J _ m2 rfl (by rw [g2 127 7 (by decide) (by decide)]; exact o1) (NL_f (NL_f hk g1 rfl) g2 rfl)
      dsimp only at t1 t2
      have pp := hP _ _ _ _ hs1
      rw [if_pos s, e2', zt_bind]
      dsimp only
      cases w : S (o + 1) (pm_nx1 c L (pm_nxt c L i)) l k with
      | inl f =>
        obtain ⟨q, p⟩ := f
        obtain ⟨I3, e3, x3⟩ := t1 q p w
        obtain ⟨I4, e4, x4⟩ := xm_b (J := J) (fu := fu) (dep := dep) (x2 := nI (cc - 6)) x3
        rw [e3, zt_bind]
        refine ⟨fun q p w => ?_, fun i' l' k' w => (by cases w)⟩
        cases w
        exact ⟨I4, e4, x4⟩
      | inr t =>
        obtain ⟨i3, l3, k3⟩ := t
        rw [w] at pp
        obtain ⟨pp1, pp2, pp3, pp4⟩ := pp
        obtain ⟨I3, a3, e3, m3, hi3, o3, n3⟩ := t2 i3 l3 k3 w
        obtain ⟨u1, u2⟩ := e238 (J := J) (st := i3) (s := 44) m3 hi3 (by omega) (by omega)
        rw [e3, zt_bind]
        dsimp only [pm_uA]
        by_cases y : i3 < L ∧ c i3 = 44
        · obtain ⟨I4, e4, m4⟩ := u1 y
          have e4' : f238 44 I3 J = some ((), I4, J) := e4
          have g4 := (fr_238 _ _ _ e4').1
          have nc := nx1_b (c := c) y.1
          have hts3 := pp4.2.2.2
          have hs2 : pm_hS L n (o + 1) (pm_nx1 c L i3) l3 k3 := ⟨by omega, by omega, by omega, by omega, by omega⟩
          obtain ⟨v1, v2⟩ := hM _ _ _ _ hs2 (fu + 3) (dep + 3) (by omega) (by omega) I4 J _ m4 rfl (by rw [g4 127 7 (by decide) (by decide)]; exact o3) (NL_f n3 g4 rfl)
          dsimp only at v1 v2
          have pq := hP _ _ _ _ hs2
          rw [e4', zt_bind, if_pos y]
          dsimp only
          cases w2 : S (o + 1) (pm_nx1 c L i3) l3 k3 with
          | inl f =>
            obtain ⟨q, p⟩ := f
            obtain ⟨I5, e5, x5⟩ := v1 q p w2
            obtain ⟨I6, e6, x6⟩ := xm_a (J := J) (x2 := nI (cc - 6)) x5
            rw [e5, zt_bind]
            refine ⟨fun q p w => ?_, fun i' l' k' w => (by cases w)⟩
            cases w
            exact ⟨I6, e6, x6⟩
          | inr t =>
            obtain ⟨i5, l5, k5⟩ := t
            rw [w2] at pq
            obtain ⟨pq1, pq2, pq3, pq4⟩ := pq
            obtain ⟨I5, a5, e5, m5, hi5, o5, n5⟩ := v2 i5 l5 k5 w2
            obtain ⟨d1, d2⟩ := e238 (J := J) (st := i5) (s := 93) m5 hi5 (by omega) (by omega)
            rw [e5, zt_bind]
            dsimp only [pm_uB]
            by_cases y2 : i5 < L ∧ c i5 = 93
            · obtain ⟨I6, e6, m6⟩ := d1 y2
              have e6' : f238 93 I5 J = some ((), I6, J) := e6
              have g6 := (fr_238 _ _ _ e6').1
              have n6 : pm_NL l5 k5 I6 := NL_f n5 g6 rfl
              obtain ⟨I7, e7, n7, m7, o7⟩ := e246 (J := J) (x := cc) (y := nI (cc - 6)) (z := 0) (MF_7 (x := I6 127 7 - 1) m6) (NL_7 n6) (by omega) (mc_o hcc rfl)
              rw [e6', zt_bind, if_pos y2]
              dsimp only
              rw [pm_lt_eq, e7, zt_bind]
              refine ⟨fun q p w => (by cases w), fun i' l' k' w => ?_⟩
              cases w
              refine ⟨I7, _, rfl, m7, rfl, ?_, n7⟩
              rw [o7, zt_ws, g6 127 7 (by decide) (by decide), o5, zt_lit 1, zt_mi (by omega), Nat.add_sub_cancel]
            · obtain ⟨I6, e6, x6⟩ := d2 y2
              have e6' : f238 93 I5 J = some ((), I6, J) := e6
              rw [e6', zt_bind, if_neg y2]
              dsimp only
              rw [pm_lt_eq, e246x (MX_7 x6), zt_bind]
              refine ⟨fun q p w => ?_, fun i' l' k' w => (by cases w)⟩
              cases w
              exact ⟨_, rfl, MX_7 x6⟩
        · obtain ⟨I4, e4, x4⟩ := u2 y
          have e4' : f238 44 I3 J = some ((), I4, J) := e4
          obtain ⟨I6, e6, x6⟩ := xm_a (J := J) (x2 := nI (cc - 6)) x4
          rw [e4', zt_bind, if_neg y]
          dsimp only
          rw [x242_0 x4, zt_bind]
          refine ⟨fun q p w => ?_, fun i' l' k' w => (by cases w)⟩
          cases w
          exact ⟨I6, e6, x6⟩
    · obtain ⟨I2, e2, x2⟩ := s2 s
      have e2' : f238 91 I1 J = some ((), I2, J) := e2
      obtain ⟨I4, e4, x4⟩ := xm_b (J := J) (fu := fu) (dep := dep) (x2 := nI (cc - 6)) x2
      rw [if_neg s, e2', zt_bind]
      dsimp only
      rw [x242_0 x2, zt_bind]
      refine ⟨fun q p w => ?_, fun i' l' k' w => (by cases w)⟩
      cases w
      exact ⟨I4, e4, x4⟩
end Lc
