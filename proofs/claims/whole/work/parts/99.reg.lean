/-! THE REGISTER: what is opened -/
/-- the row at the start, but for the stores -/
def pm_r0 (C : Nat → Int32) (j : Nat) : Int32 := if j / 8 = 1 ∨ j / 8 = 7 then -1 else if j / 8 = 6 then C (j % 8) else 0
section Rf
variable {I : Nat → Nat → Int32} {J : Nat → Nat → Int64}
theorem l101i {a1 i : Nat} (h1 : a1 = 15 ∨ a1 = 113) (hi : i < 8) : ∀ d y fu : Nat, ∀ I : Nat → Nat → Int32, y + d = 8 → ∃ I', f101_L a1 (fu + d + 1) 1 (nI i) (nI y) I J = f101_L a1 fu 0 (nI (i + 1)) 0 I' J ∧ (∀ a, a ≠ 5 → I' a = I a) ∧ ∀ j, I' 5 j = if j < 64 ∧ j % 8 = i ∧ (y ≤ j / 8 ∨ j / 8 = 1 ∨ 6 ≤ j / 8) then pm_r0 (fun p => I (a1 + 4) p) j else I 5 j := by
  have i8 : ((8 : Int32)).toInt = 8 := by decide
  have s1 : ∀ (I : Nat → Nat → Int32) (x : Int32), pm_sset I 1 (nI i) x = pm_w I 5 (1 * 8 + i) x := fun I x => zt_ss (f := 1) (by omega) hi
  have s7 : ∀ (I : Nat → Nat → Int32) (x : Int32), pm_sset I 7 (nI i) x = pm_w I 5 (7 * 8 + i) x := fun I x => zt_ss (f := 7) (by omega) hi
  have s6 : ∀ (I : Nat → Nat → Int32) (x : Int32), pm_sset I 6 (nI i) x = pm_w I 5 (6 * 8 + i) x := fun I x => zt_ss (f := 6) (by omega) hi
  intro d
  induction d with
  | zero =>
    intro y fu I hy
    refine ⟨pm_w (pm_w (pm_w I 5 (1 * 8 + i) (-1)) 5 (7 * 8 + i) (-1)) 5 (6 * 8 + i) (I (a1 + 4) i), ?_, fun a ha => by rw [zt_wc ha, zt_wc ha, zt_wc ha], fun j => ?_⟩
    · rw [Nat.add_zero, f101_L, i8, nI_toInt (by omega), if_neg (by omega), pm_lt_eq, pm_lt_eq, pm_lt_eq, s1, s7, s6, zt_wc (by omega), zt_wc (by omega), zt_at (by omega) (by omega), nI_1]
    · by_cases q6 : j = 6 * 8 + i
      · subst q6
        rw [zt_ws, if_pos (by omega)]
        unfold pm_r0
        rw [if_neg (by omega), if_pos (by omega), show (6 * 8 + i) % 8 = i by omega]
      · rw [zt_w2 (by omega)]
        by_cases q7 : j = 7 * 8 + i
        · subst q7
          rw [zt_ws, if_pos (by omega)]
          unfold pm_r0
          rw [if_pos (by omega)]
        · rw [zt_w2 (by omega)]
          by_cases q1 : j = 1 * 8 + i
          · subst q1
            rw [zt_ws, if_pos (by omega)]
            unfold pm_r0
            rw [if_pos (by omega)]
          · rw [zt_w2 (by omega), if_neg (by omega)]
  | succ d ih =>
    intro y fu I hy
    obtain ⟨I', e, a, b⟩ := ih (y + 1) fu (pm_w I 5 (y * 8 + i) 0) (by omega)
    refine ⟨I', ?_, fun q hq => by rw [a q hq, zt_wc hq], fun j => ?_⟩
    · rw [show fu + (d + 1) + 1 = (fu + d + 1) + 1 by omega, f101_L, i8, nI_toInt (by omega), if_pos (by omega), pm_lt_eq, zt_ss (by omega) hi, nI_1]
      exact e
    · rw [b j, zt_wc (show a1 + 4 ≠ 5 by omega)]
      by_cases q : j = y * 8 + i
      · subst q
        by_cases z : y = 1 ∨ 6 ≤ y
        · rw [if_pos (by omega), if_pos (by omega)]
        · rw [if_neg (by omega), if_pos (by omega), zt_ws]
          unfold pm_r0
          rw [if_neg (by omega), if_neg (by omega)]
      · rw [zt_w2 (by omega)]
        by_cases z : j < 64 ∧ j % 8 = i ∧ (y + 1 ≤ j / 8 ∨ j / 8 = 1 ∨ 6 ≤ j / 8)
        · rw [if_pos z, if_pos (by omega)]
        · rw [if_neg z, if_neg (by omega)]
theorem l101 {a1 : Nat} (h1 : a1 = 15 ∨ a1 = 113) : ∀ d i fu : Nat, ∀ I : Nat → Nat → Int32, i + d = 8 → ∃ I', f101_L a1 (fu + 10 * d + 1) 0 (nI i) 0 I J = some ((), I', J) ∧ (∀ a, a ≠ 5 → I' a = I a) ∧ (∀ j, j < 64 → I' 5 j = if i ≤ j % 8 then pm_r0 (fun p => I (a1 + 4) p) j else I 5 j) ∧ I' 5 64 = 0 ∧ I' 5 65 = I a1 9 := by
  have i8 : ((8 : Int32)).toInt = 8 := by decide
  intro d
  induction d with
  | zero =>
    intro i fu I hi
    have e3 : ∀ I : Nat → Nat → Int32, f103 0 I J = some ((), pm_w I 5 64 0, J) := fun I => by
      unfold f103
      rw [pm_lt_eq, zt_lit 64, zt_pw (by omega) (by omega)]
    have e4 : ∀ (I : Nat → Nat → Int32) (x : Int32), f104 x I J = some ((), pm_w I 5 65 x, J) := fun I x => by
      unfold f104
      rw [pm_lt_eq, zt_lit 65, zt_pw (by omega) (by omega)]
    refine ⟨pm_w (pm_w I 5 64 0) 5 65 (I a1 9), ?_, fun a ha => by rw [zt_wc ha, zt_wc ha], fun j hj => ?_, ?_, ?_⟩
    · rw [Nat.mul_zero, Nat.add_zero, f101_L, i8, nI_toInt (by omega), if_neg (by omega), e3, zt_bind]
      dsimp only
      rw [zt_wc (by omega), e4, zt_bind]
    · rw [zt_w2 (by omega), zt_w2 (by omega), if_neg (by omega)]
    · rw [zt_w2 (by omega), zt_ws]
    · rw [zt_ws]
  | succ d ih =>
    intro i fu I hi
    obtain ⟨I1, e1, a1', b1⟩ := l101i (J := J) (a1 := a1) (i := i) h1 (by omega) 8 0 (fu + 10 * d + 1) I (by omega)
    obtain ⟨I2, e2, a2, b2, c2, d2⟩ := ih (i + 1) fu I1 (by omega)
    rw [nI_0] at e1
    refine ⟨I2, ?_, fun a ha => by rw [a2 a ha, a1' a ha], fun j hj => ?_, c2, by rw [d2, a1' a1 (by omega)]⟩
    · rw [show fu + 10 * (d + 1) + 1 = ((fu + 10 * d + 1) + 8 + 1) + 1 by omega, f101_L, i8, nI_toInt (by omega), if_pos (by omega), e1]
      exact e2
    · rw [b2 j hj, b1 j, a1' (a1 + 4) (by omega)]
      by_cases q : i + 1 ≤ j % 8
      · rw [if_pos q, if_pos (by omega)]
      · rw [if_neg q]
        by_cases z : j % 8 = i
        · rw [if_pos (by omega), if_pos (by omega)]
        · rw [if_neg (by omega), if_neg (by omega)]
theorem e101 {a1 : Nat} (h1 : a1 = 15 ∨ a1 = 113) : ∃ I', f101 a1 I J = some ((), I', J) ∧ (∀ a, a ≠ 5 → I' a = I a) ∧ (∀ j, j < 64 → I' 5 j = pm_r0 (fun p => I (a1 + 4) p) j) ∧ I' 5 64 = 0 ∧ I' 5 65 = I a1 9 := by
  obtain ⟨fu, hfu⟩ : ∃ fu, pm_FU = fu + 10 * 8 + 1 := ⟨pm_FU - 81, by unfold pm_FU; omega⟩
  obtain ⟨I', e, a, b, c, d⟩ := l101 (J := J) h1 8 0 fu I (by omega)
  rw [nI_0] at e
  refine ⟨I', ?_, a, fun j hj => by rw [b j hj, if_pos (by omega)], c, d⟩
  unfold f101
  rw [hfu]
  exact e
theorem e17g {a0 l x : Nat} {k : Nat → Nat} (h0 : a0 = 6 ∨ a0 = 9) (h : pm_CL a0 l k I) (hl : l < 150) : ∃ I', f17 a0 (nI x) I J = some ((), I', J) ∧ pm_CL a0 (l + 1) (pm_cup k l x) I' := by
  obtain ⟨h1, h2⟩ := h
  have e : f17 a0 (nI x) I J = some ((), pm_w (pm_w I (a0 + 1) l (nI x)) a0 2 (nI (l + 1)), J) := by
    unfold f17
    rw [h1, nI_toInt (by omega), nI_toInt (by omega), if_pos (by omega), zt_pw (by omega) (by omega), pm_lt_eq, pm_lt_eq, zt_wc (by omega), h1, nI_1]
  refine ⟨_, e, zt_ws, fun i hi => ?_⟩
  rw [zt_wc (by omega)]
  unfold pm_cup
  by_cases q : i = l
  · rw [if_pos q, q, zt_ws]
  · rw [if_neg q, zt_w2 (by omega)]
    exact h2 i (by omega)
theorem e16 {a0 : Nat} (h0 : a0 = 6 ∨ a0 = 9) : ∃ I', f16 a0 I J = some ((), I', J) ∧ pm_CL a0 7 pm_pk I' := by
  have c0 : pm_CL a0 0 (fun _ => 0) (pm_w I a0 2 0) := ⟨by rw [zt_ws]; rfl, fun i hi => by omega⟩
  obtain ⟨I1, e1, c1⟩ := e17g (J := J) (x := 0) h0 c0 (by omega)
  obtain ⟨I2, e2, c2⟩ := e17g (J := J) (x := 66) h0 c1 (by omega)
  obtain ⟨I3, e3, c3⟩ := e17g (J := J) (x := 10) h0 c2 (by omega)
  obtain ⟨I4, e4, c4⟩ := e17g (J := J) (x := 1) h0 c3 (by omega)
  obtain ⟨I5, e5, c5⟩ := e17g (J := J) (x := 18) h0 c4 (by omega)
  obtain ⟨I6, e6, c6⟩ := e17g (J := J) (x := 10) h0 c5 (by omega)
  obtain ⟨I7, e7, c7⟩ := e17g (J := J) (x := 8) h0 c6 (by omega)
  have e1' : f17 a0 0 (pm_w I a0 2 0) J = some ((), I1, J) := e1
  have e2' : f17 a0 66 I1 J = some ((), I2, J) := e2
  have e3' : f17 a0 10 I2 J = some ((), I3, J) := e3
  have e4' : f17 a0 1 I3 J = some ((), I4, J) := e4
  have e5' : f17 a0 18 I4 J = some ((), I5, J) := e5
  have e6' : f17 a0 10 I5 J = some ((), I6, J) := e6
  have e7' : f17 a0 8 I6 J = some ((), I7, J) := e7
  refine ⟨I7, ?_, c7.1, fun i hi => ?_⟩
  · unfold f16
    rw [pm_lt_eq, e1', zt_bind]
    dsimp only
    rw [e2', zt_bind]
    dsimp only
    rw [e3', zt_bind]
    dsimp only
    rw [e4', zt_bind]
    dsimp only
    rw [e5', zt_bind]
    dsimp only
    rw [e6', zt_bind]
    dsimp only
    rw [e7', zt_bind]
  · rw [c7.2 i hi]
    have c : i = 0 ∨ i = 1 ∨ i = 2 ∨ i = 3 ∨ i = 4 ∨ i = 5 ∨ i = 6 := by omega
    rcases c with rfl | rfl | rfl | rfl | rfl | rfl | rfl <;> rfl
/-- the class opens it -/
theorem e38 {a1 : Nat} (h1 : a1 = 15 ∨ a1 = 113) : ∃ I', f38 a1 I J = some ((), I', J) ∧ pm_CL 6 7 pm_pk I' ∧ pm_CL 9 7 pm_pk I' ∧ (∀ j, j < 64 → I' 5 j = pm_r0 (fun p => I (a1 + 4) p) j) ∧ I' 5 64 = 0 ∧ I' 5 65 = I a1 9 := by
  obtain ⟨I1, e1, c1⟩ := e16 (I := I) (J := J) (a0 := 6) (Or.inl rfl)
  have g1 := (fr_16 _ _ _ e1).1
  obtain ⟨I2, e2, c2⟩ := e16 (I := I1) (J := J) (a0 := 9) (Or.inr rfl)
  have g2 := (fr_16 _ _ _ e2).1
  obtain ⟨I3, e3, a3, b3, d3, f3⟩ := e101 (I := I2) (J := J) h1
  have q : ∀ a, a = a1 ∨ a = a1 + 4 → I2 a = I a := fun a ha => by
    rw [ag_cell g2 (by simp; omega) (by intro f; simp; omega), ag_cell g1 (by simp; omega) (by intro f; simp; omega)]
  refine ⟨I3, ?_, CL_ag c1 ?_ ?_, CL_ag c2 (a3 _ (by decide)) (a3 _ (by decide)), fun j hj => by rw [b3 j hj, q (a1 + 4) (Or.inr rfl)], d3, by rw [f3, q a1 (Or.inl rfl)]⟩
  · unfold f38
    rw [e1, zt_bind]
    dsimp only
    rw [e2, zt_bind]
    dsimp only
    rw [e3, zt_bind]
  · rw [a3 6 (by decide), ag_cell g2 (by decide) (by intro f; simp)]
  · rw [a3 (6 + 1) (by decide), ag_cell g2 (by decide) (by intro f; simp)]
end Rf
