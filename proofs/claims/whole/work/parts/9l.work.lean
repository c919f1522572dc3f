/-! WORK'S TEXT: the class reads steps -/
def pm_cE (X : Nat → Nat × Nat × Nat × Nat) (I : Nat → Nat → Int32) (j : Nat) : Prop := I 98 j = nI (X j).1 ∧ (1 ≤ (X j).1 → (X j).1 ≤ 6 → I 99 j = nI (X j).2.1) ∧ (((X j).1 = 1 ∨ (X j).1 = 2 ∨ (X j).1 = 8) → I 100 j = nI (X j).2.2.1) ∧ I 101 j = nI (X j).2.2.2
def pm_kp (m : Nat) (I I' : Nat → Nat → Int32) : Prop := ∀ j, j < m → I' 98 j = I 98 j ∧ I' 99 j = I 99 j ∧ I' 100 j = I 100 j ∧ I' 101 j = I 101 j
def pm_wC (r n t : Nat) (c : Nat → Nat) (L i m : Nat) (res : (Nat × Nat) ⊕ (Nat × Nat × (Nat → Nat × Nat × Nat × Nat))) (f : (Nat → Nat → Int32) → (Nat → Nat → Int64) → Option (Unit × (Nat → Nat → Int32) × (Nat → Nat → Int64))) : Prop := ∀ I J, pm_CF c L i I → I 97 4 = nI m → I r 7 = nI n → I r 8 = nI t → (∀ q p, res = .inl (q, p) → ∃ I', f I J = some ((), I', J) ∧ pm_CX q p I') ∧ (∀ i' m' X', res = .inr (i', m', X') → ∃ I', f I J = some ((), I', J) ∧ pm_CF c L i' I' ∧ I' 97 4 = nI m' ∧ pm_kp m I I' ∧ (∀ j, m ≤ j → j < m' → pm_cE X' I' j) ∧ I' r = I r)
def pm_wH (r n t : Nat) (c : Nat → Nat) (L i m : Nat) (res : (Nat × Nat) ⊕ (Nat × Nat × (Nat → Nat × Nat × Nat × Nat))) (f : (Nat → Nat → Int32) → (Nat → Nat → Int64) → Option (Unit × (Nat → Nat → Int32) × (Nat → Nat → Int64))) : Prop := ∀ I J, pm_CF c L i I → I 97 4 = nI m → I r 7 = nI n → I r 8 = nI t → (∀ q p, res = .inl (q, p) → ∃ I', f I J = some ((), I', J) ∧ pm_CX q p I') ∧ (∀ i' m' X', res = .inr (i', m', X') → (i' < L ∧ c i' = 93) ∧ ∃ I', f I J = some ((), I', J) ∧ pm_CF c L (pm_nx1 c L i') I' ∧ I' 97 4 = nI m' ∧ pm_kp m I I' ∧ (∀ j, m ≤ j → j < m' → pm_cE X' I' j) ∧ I' r = I r)
section Wb
variable {I : Nat → Nat → Int32} {J : Nat → Nat → Int64} {r : Nat}
theorem kp_r {m : Nat} : pm_kp m I I := fun _ _ => ⟨rfl, rfl, rfl, rfl⟩
theorem kp_t {m : Nat} {I1 I2 : Nat → Nat → Int32} (h : pm_kp m I I1) (h2 : pm_kp m I1 I2) : pm_kp m I I2 := fun j hj => ⟨(h2 j hj).1.trans (h j hj).1, (h2 j hj).2.1.trans (h j hj).2.1, (h2 j hj).2.2.1.trans (h j hj).2.2.1, (h2 j hj).2.2.2.trans (h j hj).2.2.2⟩
theorem kp_m {m m' : Nat} {I1 : Nat → Nat → Int32} (h : pm_kp m I I1) (hm : m' ≤ m) : pm_kp m' I I1 := fun j hj => h j (by omega)
theorem kp_c {m : Nat} {I1 : Nat → Nat → Int32} (h : ∀ a, 2 < a → I1 a = I a) : pm_kp m I I1 := fun j _ => by rw [h 98 (by omega), h 99 (by omega), h 100 (by omega), h 101 (by omega)]; exact ⟨rfl, rfl, rfl, rfl⟩
theorem x112_2 {q p fu dep : Nat} {z y : Int32} (h : pm_CX q p I) : ∃ I', g112 r (fu + 1) (dep + 1) 2 z y I J = some ((), I', J) ∧ pm_CX q p I' := by
  obtain ⟨I1, e1, x1⟩ := e135x (J := J) (s := 93) h
  refine ⟨I1, ?_, x1⟩
  rw [g112, v138x h, if_pos rfl, e1, zt_bind]
  simp only [ite_self]
theorem st_c {c : Nat → Nat} {L n t : Nat} {H : Nat → Nat → Nat → (Nat → Nat × Nat × Nat × Nat) → (Nat × Nat) ⊕ (Nat × Nat × (Nat → Nat × Nat × Nat × Nat))} {o i m : Nat} {X : Nat → Nat × Nat × Nat × Nat} (hr : r = 15 ∨ r = 113) (n8 : n ≤ 8) (t5 : t ≤ 5) (hL : L ≤ 150) (ho : o ≤ 6) (hi : i ≤ L) (hm : 3 * m ≤ i) {fu dep : Nat} (hf : 160 * (7 - o) ≤ fu) (hd : 2 * (7 - o) ≤ dep) (hP : ∀ i m X, o < 6 → i ≤ L → pm_wR n t L i m X (o + 1) 0 (H (o + 1) i m X)) (hH : ∀ i m X fu dep, o < 6 → i ≤ L → 0 < i → 3 * m ≤ i → 160 * (6 - o) + (L - i) + 3 ≤ fu → 2 * (6 - o) + 1 ≤ dep → pm_wH r n t c L i m (H (o + 1) i m X) (fun I J => g112 r fu dep 2 (nI (o + 1)) 0 I J)) : pm_wC r n t c L i m (pm_stR c L n t H o i m X) (fun I J => g112 r fu dep 0 (nI o) 0 I J) := by
  have i6 : ((6 : Int32)).toInt = 6 := by decide
  have sl := sI_le c L i
  obtain ⟨fu, rfl⟩ : ∃ k, fu = k + 1 := ⟨fu - 1, by omega⟩
  obtain ⟨dep, rfl⟩ : ∃ k, dep = k + 1 := ⟨dep - 1, by omega⟩
  intro I J h h97 hn ht
  have e13 := e113 (J := J) h hi
  dsimp only
  by_cases c9 : pm_stI c L i = 9
  · obtain ⟨I1, e1, x1⟩ := e133 (J := J) (k := 1) h (by omega)
    have e1' : f133 1 I J = some ((), I1, J) := e1
    rw [show pm_ni 9 (pm_stI c L i) = -1 from if_neg (by omega)] at e13
    unfold pm_stR
    rw [if_pos c9, g112, e13, zt_bind]
    dsimp only
    rw [if_pos rfl, e1', zt_bind]
    refine ⟨fun q p z => ?_, fun i' m' X' z => (by cases z)⟩
    cases z
    exact ⟨I1, rfl, x1⟩
  obtain ⟨iL, k3, st3⟩ := sI_l hi c9
  obtain ⟨nb1, nb2⟩ := nxt_g (c := c) iL
  rw [show pm_ni 9 (pm_stI c L i) = nI (pm_stI c L i) from if_pos (by omega)] at e13
  have nm1 : ¬ nI (pm_stI c L i) = -1 := by rw [zt_m1', zt_eqm (by omega)]; exact id
  obtain ⟨I1, e1, f1'⟩ := CF_step (J := J) h hi
  have f1 : pm_CF c L (pm_nxt c L i) I1 := f1'
  have g1 := c128 e1
  have h97' : I1 97 4 = nI m := by rw [g1 97 (by omega)]; exact h97
  obtain ⟨I3, hI3⟩ : ∃ I3, I3 = pm_w (pm_w I1 97 4 (nI (m + 1))) 98 m (nI (pm_stI c L i)) := ⟨_, rfl⟩
  have o3 : ∀ a, 2 < a → a ≠ 97 → a ≠ 98 → I3 a = I a := fun a h1 h2 h3 => by rw [hI3, zt_wc h3, zt_wc h2, g1 a h1]
  have f3 : pm_CF c L (pm_nxt c L i) I3 := by rw [hI3]; exact CF_w (CF_w f1 (by omega)) (by omega)
  have s97 : I3 97 4 = nI (m + 1) := by rw [hI3, zt_wc (by decide), zt_ws]
  have s98 : I3 98 m = nI (pm_stI c L i) := by rw [hI3, zt_ws]
  have s98o : ∀ j, j ≠ m → I3 98 j = I 98 j := fun j hj => by rw [hI3, zt_wf hj, zt_wc (by decide), g1 98 (by omega)]
  have kp3 : pm_kp m I I3 := fun j hj => ⟨s98o j (by omega), by rw [o3 99 (by omega) (by omega) (by omega)], by rw [o3 100 (by omega) (by omega) (by omega)], by rw [o3 101 (by omega) (by omega) (by omega)]⟩
  have r3 : I3 r = I r := o3 r (by omega) (by omega) (by omega)
  by_cases c8 : pm_stI c L i = 8
  · have e8 : nI (pm_stI c L i) = 8 := by rw [c8]; rfl
    have body : g112 r (fu + 1) (dep + 1) 0 (nI o) 0 I J = if (nI o).toInt < (6 : Int32).toInt then (f134 0 60 I3 J).bind (fun (ov54, I55, J56) => pm_lt (pm_pw I55 100 150 (nI m) ov54) (fun I58 => (g112 r fu dep 1 (nI o + 1) 0 I58 J56).bind (fun (ov59, I60, J61) => pm_lt (pm_pw I60 101 150 (nI m) (I60 97 4)) (fun I63 => (f135 59 I63 J61).bind (fun (ov64, I65, J66) => some ((), I65, J66)))))) else (f133 3 I J).bind (fun (ov68, I69, J70) => some ((), I69, J70)) := by
      rw [g112, e13, zt_bind]
      dsimp only
      rw [if_neg nm1, if_pos e8, e1, zt_bind]
      dsimp only
      rw [pm_lt_eq, pm_lt_eq, if_pos e8, h97', nI_1, zt_pw (by omega) (by omega), ← hI3]
    rw [body, i6, nI_toInt (by omega)]
    unfold pm_stR
    rw [if_neg c9, if_pos c8]
    by_cases o6 : o = 6
    · obtain ⟨I2, e2, x2⟩ := e133 (J := J) (k := 3) h (by omega)
      have e2' : f133 3 I J = some ((), I2, J) := e2
      rw [if_neg (show ¬ ((o : Nat) : Int) < 6 by omega), if_pos o6, e2', zt_bind]
      refine ⟨fun q p z => ?_, fun i' m' X' z => (by cases z)⟩
      cases z
      exact ⟨I2, rfl, x2⟩
    rw [if_pos (show ((o : Nat) : Int) < 6 by omega), if_neg o6, nI_1]
    obtain ⟨fu, rfl⟩ : ∃ k, fu = k + 2 := ⟨fu - 2, by omega⟩
    obtain ⟨dep, rfl⟩ : ∃ k, dep = k + 1 := ⟨dep - 1, by omega⟩
    obtain ⟨a1, a2⟩ := i134 (J := J) (lo := 0) (hi := 60) f3 nb2 (by omega) (by omega)
    -- at fault from here on
    have xx : ∀ (q p : Nat) (I4 : Nat → Nat → Int32), pm_CX q p I4 → ∃ I', (g112 r (fu + 2) (dep + 1) 1 (nI (o + 1)) 0 I4 J).bind (fun (ov59, I60, J61) => pm_lt (pm_pw I60 101 150 (nI m) (I60 97 4)) (fun I63 => (f135 59 I63 J61).bind (fun (ov64, I65, J66) => some ((), I65, J66)))) = some ((), I', J) ∧ pm_CX q p I' := by
      intro q p I4 x4
      obtain ⟨I5, e5, x5⟩ := e135x (J := J) (s := 91) x4
      obtain ⟨I6, e6, x6⟩ := x112_2 (J := J) (r := r) (fu := fu) (dep := dep) (z := nI (o + 1)) (y := 0) x5
      have e7 : g112 r (fu + 2) (dep + 1) 1 (nI (o + 1)) 0 I4 J = some ((), I6, J) := by
        rw [g112, e5, zt_bind]
        exact e6
      obtain ⟨I8, e8', x8⟩ := e135x (J := J) (s := 59) (CX_pw (a := 101) (len := 150) (i := nI m) (x := I6 97 4) x6 (by omega))
      refine ⟨I8, ?_, x8⟩
      rw [e7, zt_bind]
      dsimp only
      rw [pm_lt_eq, e8', zt_bind]
    by_cases z : pm_nk c L 0 60 (pm_nxt c L i) = 0
    · obtain ⟨I4, e4, f4⟩ := a1 z
      have e4' : f134 0 60 I3 J = some (nI (pm_nv c L (pm_nxt c L i)), I4, J) := e4
      have g4 := c134 e4'
      rw [if_neg (show ¬ pm_nk c L 0 60 (pm_nxt c L i) ≠ 0 by omega), e4', zt_bind]
      dsimp only
      rw [zt_pw (by omega) (by omega), pm_lt_eq]
      obtain ⟨I5, hI5⟩ : ∃ I5, I5 = pm_w I4 100 m (nI (pm_nv c L (pm_nxt c L i))) := ⟨_, rfl⟩
      rw [← hI5]
      have f5 : pm_CF c L (pm_nxt c L (pm_nxt c L i)) I5 := by rw [hI5]; exact CF_w f4 (by omega)
      have o5 : ∀ a, 2 < a → a ≠ 100 → I5 a = I3 a := fun a h1 h2 => by rw [hI5, zt_wc h2, g4 a h1]
      have nc := nx_b (c := c) nb2
      obtain ⟨b1, b2⟩ := e135s (J := J) (s := 91) f5 nc (by omega)
      by_cases s : pm_nxt c L (pm_nxt c L i) < L ∧ c (pm_nxt c L (pm_nxt c L i)) = 91
      · obtain ⟨I6, e6, f6⟩ := b1 s
        have e6' : f135 91 I5 J = some ((), I6, J) := e6
        have g6 := c135 e6'
        have nd := nx1_b (c := c) s.1
        have ge2 := (nxt_g (c := c) (kd_2 (nk_0 z).1).1).1
        have o6' : ∀ a, 2 < a → a ≠ 100 → I6 a = I3 a := fun a h1 h2 => by rw [g6 a h1, o5 a h1 h2]
        have sn := stp_nxt (c := c) (L := L) (i := i)
        have hh := hH (pm_nx1 c L (pm_nxt c L (pm_nxt c L i))) (m + 1) (pm_xu X m (8, 0, pm_nv c L (pm_nxt c L i), 0)) (fu + 1) (dep + 1) (by omega) nd.2 (by omega) (by omega) (by omega) (by omega) I6 J f6 (by rw [o6' 97 (by omega) (by omega)]; exact s97) (by rw [o6' r (by omega) (by omega), r3]; exact hn) (by rw [o6' r (by omega) (by omega), r3]; exact ht)
        have pp := hP (pm_nx1 c L (pm_nxt c L (pm_nxt c L i))) (m + 1) (pm_xu X m (8, 0, pm_nv c L (pm_nxt c L i), 0)) (by omega) nd.2
        obtain ⟨t1, t2⟩ := hh
        dsimp only at t1 t2
        have lab1 : g112 r (fu + 2) (dep + 1) 1 (nI (o + 1)) 0 I5 J = g112 r (fu + 1) (dep + 1) 2 (nI (o + 1)) 0 I6 J := by
          rw [g112, e6', zt_bind]
        rw [if_pos s, lab1]
        cases y : H (o + 1) (pm_nx1 c L (pm_nxt c L (pm_nxt c L i))) (m + 1) (pm_xu X m (8, 0, pm_nv c L (pm_nxt c L i), 0)) with
        | inl f =>
          obtain ⟨q, p⟩ := f
          obtain ⟨I7, e7, x7⟩ := t1 q p y
          obtain ⟨I8, e8', x8⟩ := e135x (J := J) (s := 59) (CX_pw (a := 101) (len := 150) (i := nI m) (x := I7 97 4) x7 (by omega))
          rw [e7, zt_bind]
          dsimp only
          rw [pm_lt_eq, e8', zt_bind]
          refine ⟨fun q p z => ?_, fun i' m' X' z => (by cases z)⟩
          cases z
          exact ⟨I8, rfl, x8⟩
        | inr f =>
          obtain ⟨i3, m3, X3⟩ := f
          rw [y] at pp
          obtain ⟨pp1, pp2, pp3, pp4, pp5, pp6⟩ := pp
          obtain ⟨s2, I7, e7, f7, h7, k7, en7, r7⟩ := t2 i3 m3 X3 y
          have ne := nx1_b (c := c) s2.1
          rw [e7, zt_bind]
          dsimp only [pm_sh]
          rw [if_pos s2, h7, zt_pw (by omega) (by omega), pm_lt_eq]
          have f8 : pm_CF c L (pm_nx1 c L i3) (pm_w I7 101 m (nI m3)) := CF_w f7 (by omega)
          obtain ⟨d1, d2⟩ := e135s (J := J) (s := 59) f8 ne.2 (by omega)
          unfold pm_smi
          by_cases s3 : pm_nx1 c L i3 < L ∧ c (pm_nx1 c L i3) = 59
          · obtain ⟨I9, e9, f9⟩ := d1 s3
            have e9' : f135 59 (pm_w I7 101 m (nI m3)) J = some ((), I9, J) := e9
            have g9 := c135 e9'
            rw [if_pos s3, e9', zt_bind]
            refine ⟨fun q p z => (by cases z), fun i' m' X' z => ?_⟩
            cases z
            have kp6 : pm_kp m I I6 := fun j hj => ⟨by rw [o6' 98 (by omega) (by omega)]; exact s98o j (by omega), by rw [o6' 99 (by omega) (by omega), o3 99 (by omega) (by omega) (by omega)], by rw [g6 100 (by omega), hI5, zt_wf (by omega), g4 100 (by omega), o3 100 (by omega) (by omega) (by omega)], by rw [o6' 101 (by omega) (by omega), o3 101 (by omega) (by omega) (by omega)]⟩
            have c9' : ∀ a, 2 < a → a ≠ 101 → I9 a = I7 a := fun a h1 h2 => by rw [g9 a h1, zt_wc h2]
            have c101 : ∀ j, j ≠ m → I9 101 j = I7 101 j := fun j hj => by rw [g9 101 (by omega), zt_wf hj]
            refine ⟨I9, rfl, f9, by rw [c9' 97 (by omega) (by omega)]; exact h7, fun j hj => ?_, fun j h1 h2 => ?_, ?_⟩
            · obtain ⟨w1, w2, w3, w4⟩ := k7 j (by omega)
              obtain ⟨v1, v2, v3, v4⟩ := kp6 j hj
              exact ⟨by rw [c9' 98 (by omega) (by omega), w1, v1], by rw [c9' 99 (by omega) (by omega), w2, v2], by rw [c9' 100 (by omega) (by omega), w3, v3], by rw [c101 j (by omega), w4, v4]⟩
            · by_cases jm : j = m
              · subst jm
                obtain ⟨w1, w2, w3, w4⟩ := k7 j (by omega)
                unfold pm_cE
                rw [xu_s]
                refine ⟨?_, fun a b => ?_, fun _ => ?_, ?_⟩
                · rw [c9' 98 (by omega) (by omega), w1, o6' 98 (by omega) (by omega), s98, c8]
                · exact absurd (show (8 : Nat) ≤ 6 from b) (by decide)
                · rw [c9' 100 (by omega) (by omega), w3, g6 100 (by omega), hI5, zt_ws]
                · rw [g9 101 (by omega), zt_ws]
              · have q := en7 j (by omega) h2
                unfold pm_cE at q ⊢
                rw [xu_n jm, c9' 98 (by omega) (by omega), c9' 99 (by omega) (by omega), c9' 100 (by omega) (by omega), c101 j jm]
                exact q
            · rw [c9' r (by omega) (by omega), r7, o6' r (by omega) (by omega), r3]
          · obtain ⟨I9, e9, x9⟩ := d2 s3
            have e9' : f135 59 (pm_w I7 101 m (nI m3)) J = some ((), I9, J) := e9
            rw [if_neg s3, e9', zt_bind]
            refine ⟨fun q p z => ?_, fun i' m' X' z => (by cases z)⟩
            cases z
            exact ⟨I9, rfl, x9⟩
      · obtain ⟨I6, e6, x6⟩ := b2 s
        have e6' : f135 91 I5 J = some ((), I6, J) := e6
        obtain ⟨I7, e7, x7⟩ := x112_2 (J := J) (r := r) (fu := fu) (dep := dep) (z := nI (o + 1)) (y := 0) x6
        have lab1 : g112 r (fu + 2) (dep + 1) 1 (nI (o + 1)) 0 I5 J = some ((), I7, J) := by
          rw [g112, e6', zt_bind]
          exact e7
        obtain ⟨I8, e8', x8⟩ := e135x (J := J) (s := 59) (CX_pw (a := 101) (len := 150) (i := nI m) (x := I7 97 4) x7 (by omega))
        rw [if_neg s, lab1, zt_bind]
        dsimp only
        rw [pm_lt_eq, e8', zt_bind]
        refine ⟨fun q p z => ?_, fun i' m' X' z => (by cases z)⟩
        cases z
        exact ⟨I8, rfl, x8⟩
    · obtain ⟨I4, e4, x4⟩ := a2 z
      have e4' : f134 0 60 I3 J = some (0, I4, J) := e4
      obtain ⟨I5, e5, x5⟩ := xx _ _ _ (CX_pw (a := 100) (len := 150) (i := nI m) (x := 0) x4 (by omega))
      rw [if_pos z, e4', zt_bind]
      dsimp only
      rw [pm_lt_eq, e5]
      refine ⟨fun q p z => ?_, fun i' m' X' z => (by cases z)⟩
      cases z
      exact ⟨I5, rfl, x5⟩
  · have n8' : ¬ nI (pm_stI c L i) = 8 := by rw [zt_lit 8, zt_eq (by omega) (by omega)]; exact c8
    have body : g112 r (fu + 1) (dep + 1) 0 (nI o) 0 I J = (f115 r (nI m) I3 J).bind (fun (ov14, I15, J16) => pm_lt (pm_pw I15 101 150 (nI m) (I15 97 4)) (fun I18 => (f135 59 I18 J16).bind (fun (ov19, I20, J21) => some ((), I20, J21)))) := by
      rw [g112, e13, zt_bind]
      dsimp only
      rw [if_neg nm1, if_neg n8', e1, zt_bind]
      dsimp only
      rw [pm_lt_eq, pm_lt_eq, if_neg n8', h97', nI_1, zt_pw (by omega) (by omega), ← hI3]
    rw [body, stR_p c9 c8]
    obtain ⟨a1, a2⟩ := e115 (J := J) (k := pm_stI c L i) f3 nb2 hr (by omega) (show m < 150 by omega) s98 (by rw [r3]; exact hn) (by rw [r3]; exact ht) n8 t5
    cases y : pm_s5 c L n t (pm_stI c L i) (pm_nxt c L i) with
    | inl f =>
      obtain ⟨q, p⟩ := f
      obtain ⟨I4, e4, x4⟩ := a1 q p y
      obtain ⟨I5, e5, x5⟩ := e135x (J := J) (s := 59) (CX_pw (a := 101) (len := 150) (i := nI m) (x := I4 97 4) x4 (by omega))
      rw [e4, zt_bind]
      dsimp only
      rw [pm_lt_eq, e5, zt_bind]
      refine ⟨fun q p z => ?_, fun i' m' X' z => (by cases z)⟩
      cases z
      exact ⟨I5, rfl, x5⟩
    | inr f =>
      obtain ⟨j', a, b⟩ := f
      obtain ⟨I4, e4, f4, q99, q100, qo, qc⟩ := a2 j' a b y
      have jb := s5_b nb2 j' a b y
      have h4 : I4 97 4 = nI (m + 1) := by rw [qc 97 (by omega) (by omega) (by omega)]; exact s97
      rw [e4, zt_bind]
      dsimp only [pm_s6]
      rw [h4, zt_pw (by omega) (by omega), pm_lt_eq]
      obtain ⟨d1, d2⟩ := e135s (J := J) (s := 59) (CF_w (a := 101) (f := m) (x := nI (m + 1)) f4 (by omega)) jb (by omega)
      unfold pm_smi
      by_cases s3 : j' < L ∧ c j' = 59
      · obtain ⟨I9, e9, f9⟩ := d1 s3
        have e9' : f135 59 (pm_w I4 101 m (nI (m + 1))) J = some ((), I9, J) := e9
        have g9 := c135 e9'
        rw [if_pos s3, e9', zt_bind]
        refine ⟨fun q p z => (by cases z), fun i' m' X' z => ?_⟩
        cases z
        have c9' : ∀ a, 2 < a → a ≠ 101 → I9 a = I4 a := fun a h1 h2 => by rw [g9 a h1, zt_wc h2]
        refine ⟨I9, rfl, f9, by rw [c9' 97 (by omega) (by omega)]; exact h4, fun j hj => ?_, fun j h1 h2 => ?_, ?_⟩
        · obtain ⟨v1, v2, v3, v4⟩ := kp3 j hj
          exact ⟨by rw [c9' 98 (by omega) (by omega), qc 98 (by omega) (by omega) (by omega), v1], by rw [c9' 99 (by omega) (by omega), (qo j (by omega)).1, v2], by rw [c9' 100 (by omega) (by omega), (qo j (by omega)).2, v3], by rw [g9 101 (by omega), zt_wf (by omega), qc 101 (by omega) (by omega) (by omega), v4]⟩
        · have jm : j = m := by omega
          subst jm
          unfold pm_cE
          rw [xu_s]
          refine ⟨by rw [c9' 98 (by omega) (by omega), qc 98 (by omega) (by omega) (by omega), s98], fun a b => by rw [c9' 99 (by omega) (by omega)]; exact q99 a b, fun z => ?_, by rw [g9 101 (by omega), zt_ws]⟩
          rw [c9' 100 (by omega) (by omega)]
          refine q100 ?_
          dsimp only at z
          omega
        · rw [c9' r (by omega) (by omega), qc r (by omega) (by omega) (by omega), r3]
      · obtain ⟨I9, e9, x9⟩ := d2 s3
        have e9' : f135 59 (pm_w I4 101 m (nI (m + 1))) J = some ((), I9, J) := e9
        rw [if_neg s3, e9', zt_bind]
        refine ⟨fun q p z => ?_, fun i' m' X' z => (by cases z)⟩
        cases z
        exact ⟨I9, rfl, x9⟩
/-- what is held -/
theorem hl_c {c : Nat → Nat} {L n t o : Nat} {S : Nat → Nat → Nat → (Nat → Nat × Nat × Nat × Nat) → (Nat × Nat) ⊕ (Nat × Nat × (Nat → Nat × Nat × Nat × Nat))} (hr : r = 15 ∨ r = 113) (hL : L ≤ 150) (ho : o ≤ 6) (hP : ∀ i m X, i ≤ L → pm_wR n t L i m X o 1 (S o i m X)) (hS : ∀ i m X fu dep, i ≤ L → 3 * m ≤ i → 160 * (7 - o) ≤ fu → 2 * (7 - o) ≤ dep → pm_wC r n t c L i m (S o i m X) (fun I J => g112 r fu dep 0 (nI o) 0 I J)) : ∀ d i m X y fu dep, L - i < d → i ≤ L → y < i → 3 * m ≤ i → 160 * (7 - o) + (L - i) + 3 ≤ fu → 2 * (7 - o) + 1 ≤ dep → pm_wH r n t c L i m (pm_hl c L S d o i m X) (fun I J => g112 r fu dep 2 (nI o) (nI y) I J) := by
  have i150 : ((150 : Int32)).toInt = 150 := by decide
  intro d
  induction d with
  | zero => intro i m X y fu dep hd; omega
  | succ d ih =>
    intro i m X y fu dep hd hi hy hm hf hdp I J h h97 hn ht
    obtain ⟨fu, rfl⟩ : ∃ k, fu = k + 1 := ⟨fu - 1, by omega⟩
    obtain ⟨dep, rfl⟩ : ∃ k, dep = k + 1 := ⟨dep - 1, by omega⟩
    have v9 : v136 93 I = decide (i < L ∧ c i = 93) := v136f (s := 93) h hi (by omega)
    dsimp only
    rw [pm_hl, g112, i150, nI_toInt (by omega), if_pos (show ((y : Nat) : Int) < 150 by omega), v138f h, if_neg (show ¬ false = true by decide), v9, nI_1]
    by_cases s : i < L ∧ c i = 93
    · obtain ⟨I1, e1, f1⟩ := (e135s (J := J) (s := 93) h hi (by omega)).1 s
      have e1' : f135 93 I J = some ((), I1, J) := e1
      have g1 := c135 e1'
      rw [if_pos s, decide_eq_true s, if_pos rfl, e1', zt_bind]
      refine ⟨fun q p z => (by cases z), fun i' m' X' z => ?_⟩
      cases z
      exact ⟨s, I1, rfl, f1, by rw [g1 97 (by omega)]; exact h97, kp_c g1, fun j a b => by omega, g1 r (by omega)⟩
    · rw [if_neg s, decide_eq_false s, if_neg (show ¬ false = true by decide)]
      obtain ⟨t1, t2⟩ := hS i m X fu dep hi hm (by omega) (by omega) I J h h97 hn ht
      dsimp only at t1 t2
      have pp := hP i m X hi
      cases y2 : S o i m X with
      | inl f =>
        obtain ⟨q, p⟩ := f
        obtain ⟨I1, e1, x1⟩ := t1 q p y2
        obtain ⟨fu, rfl⟩ : ∃ k, fu = k + 1 := ⟨fu - 1, by omega⟩
        obtain ⟨I2, e2, x2⟩ := x112_2 (J := J) (r := r) (fu := fu) (dep := dep) (z := nI o) (y := nI (y + 1)) x1
        rw [e1, zt_bind]
        dsimp only
        rw [e2]
        refine ⟨fun q p z => ?_, fun i' m' X' z => (by cases z)⟩
        cases z
        exact ⟨I2, rfl, x2⟩
      | inr f =>
        obtain ⟨i1, m1, X1⟩ := f
        rw [y2] at pp
        obtain ⟨p1, p2, p3, p4, p5, p6⟩ := pp
        obtain ⟨I1, e1, f1, h1, k1, en1, r1⟩ := t2 i1 m1 X1 y2
        rw [e1, zt_bind]
        dsimp only
        obtain ⟨u1, u2⟩ := ih i1 m1 X1 (y + 1) fu (dep + 1) (by omega) p1 (by omega) (by omega) (by omega) (by omega) I1 J f1 h1 (by rw [r1]; exact hn) (by rw [r1]; exact ht)
        dsimp only at u1 u2
        refine ⟨u1, fun i' m' X' z => ?_⟩
        obtain ⟨s2, I2, e2, f2, h2, k2, en2, r2⟩ := u2 i' m' X' z
        have hR := hl_R (c := c) (S := S) hP d i1 m1 X1 p1
        rw [z] at hR
        obtain ⟨_, _, q3, _, q5, _⟩ := hR
        refine ⟨s2, I2, e2, f2, h2, kp_t k1 (kp_m k2 (by omega)), fun j a b => ?_, by rw [r2, r1]⟩
        by_cases jm : j < m1
        · have q := en1 j a jm
          obtain ⟨w1, w2, w3, w4⟩ := k2 j jm
          unfold pm_cE at q ⊢
          rw [q5 j jm, w1, w2, w3, w4]
          exact q
        · exact en2 j (by omega) b
theorem sS_c {c : Nat → Nat} {L n t : Nat} (hr : r = 15 ∨ r = 113) (n8 : n ≤ 8) (t5 : t ≤ 5) (hL : L ≤ 150) : ∀ f o i m X fu dep, o ≤ 6 → 7 - o ≤ f → i ≤ L → 3 * m ≤ i → 160 * (7 - o) ≤ fu → 2 * (7 - o) ≤ dep → pm_wC r n t c L i m (pm_sS c L n t f o i m X) (fun I J => g112 r fu dep 0 (nI o) 0 I J) := by
  intro f
  induction f with
  | zero => intro o i m X fu dep ho hf; omega
  | succ f ih =>
    intro o i m X fu dep ho hf hi hm hfu hd
    rw [pm_sS]
    refine st_c hr n8 t5 hL ho hi hm hfu hd (fun i m X h6 hi => hl_R (fun i m X hi => sS_R f (o + 1) i m X (by omega) (by omega) hi) (L + 1) i m X hi) (fun i m X fu dep h6 hi h0 hm hfu hd => ?_)
    have q := hl_c hr hL (show o + 1 ≤ 6 by omega) (fun i m X hi => sS_R f (o + 1) i m X (by omega) (by omega) hi) (fun i m X fu dep hi hm hfu hd => ih (o + 1) i m X fu dep (by omega) (by omega) hi hm hfu hd) (L + 1) i m X 0 fu dep (by omega) hi h0 hm (by omega) (by omega)
    rw [nI_0] at q
    exact q
end Wb
