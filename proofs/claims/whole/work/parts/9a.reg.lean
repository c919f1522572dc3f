/-! THE REGISTER: what the reference sets -/
section Rg
variable {I : Nat → Nat → Int32} {J : Nat → Nat → Int64}
theorem l217a : ∀ d y fu : Nat, ∀ I : Nat → Nat → Int32, y + d = 66 → ∃ I', f217_L (fu + d + 1) 0 (nI y) I J = f217_L fu 1 0 I' J ∧ (∀ a, a ≠ 143 → I' a = I a) ∧ ∀ j, j < 66 → I' 143 j = if y ≤ j then 0 else I 143 j := by
  have i66 : ((66 : Int32)).toInt = 66 := by decide
  intro d
  induction d with
  | zero =>
    intro y fu I hy
    refine ⟨I, ?_, fun _ _ => rfl, fun j hj => by rw [if_neg (by omega)]⟩
    rw [Nat.add_zero, f217_L, i66, nI_toInt (by omega), if_neg (by omega)]
  | succ d ih =>
    intro y fu I hy
    obtain ⟨I', e, a, b⟩ := ih (y + 1) fu (pm_w I 143 y 0) (by omega)
    refine ⟨I', ?_, fun q hq => by rw [a q hq, zt_wc hq], fun j hj => ?_⟩
    · rw [show fu + (d + 1) + 1 = (fu + d + 1) + 1 by omega, f217_L, i66, nI_toInt (by omega), if_pos (by omega), zt_in (by omega) (by omega), zt_gd, pm_lt_eq, nI_clamp (by omega), nI_1]
      exact e
    · rw [b j hj]
      by_cases q : j = y
      · subst q
        rw [if_neg (by omega), if_pos (by omega), zt_ws]
      · rw [zt_w2 (by omega)]
        by_cases z : y + 1 ≤ j
        · rw [if_pos z, if_pos (by omega)]
        · rw [if_neg z, if_neg (by omega)]
theorem l217b {n : Nat} (h8 : n ≤ 8) : ∀ d p fu : Nat, ∀ I : Nat → Nat → Int32, p + d = 8 → I 127 18 = nI n → ∃ I', f217_L (fu + d + 1) 1 (nI p) I J = some ((), I', J) ∧ (∀ a, a ≠ 143 → I' a = I a) ∧ (∀ q, p ≤ q → q < 8 → I' 143 (8 + q) = -1 ∧ I' 143 (48 + q) = -1 ∧ I' 143 (56 + q) = if q < n then I 132 (4 * q + 3) else 0) ∧ I' 143 65 = I 127 16 ∧ ∀ j, j < 65 → (j < 8 + p ∨ 16 ≤ j) → (j < 48 + p ∨ 56 ≤ j) → (j < 56 + p ∨ 64 ≤ j) → I' 143 j = I 143 j := by
  have i8 : ((8 : Int32)).toInt = 8 := by decide
  intro d
  induction d with
  | zero =>
    intro p fu I hp hn
    refine ⟨pm_w I 143 65 (I 127 16), ?_, fun a ha => zt_wc ha, fun q h1 h2 => by omega, zt_ws, fun j hj _ _ _ => zt_w2 (by omega)⟩
    rw [Nat.add_zero, f217_L, i8, nI_toInt (by omega), if_neg (by omega)]
    rfl
  | succ d ih =>
    intro p fu I hp hn
    have j8 : (8 : Int32) + nI p = nI (8 + p) := nI_add 8 p
    have j48 : (48 : Int32) + nI p = nI (48 + p) := nI_add 48 p
    have j56 : (56 : Int32) + nI p = nI (56 + p) := nI_add 56 p
    have j4 : (4 : Int32) * nI p + 3 = nI (4 * p + 3) := i4m p 3
    have cell : ∀ x : Int32, pm_w (pm_w (pm_w I 143 (8 + p) (-1)) 143 (48 + p) (-1)) 143 (56 + p) x 143 (8 + p) = -1 ∧ pm_w (pm_w (pm_w I 143 (8 + p) (-1)) 143 (48 + p) (-1)) 143 (56 + p) x 143 (48 + p) = -1 ∧ pm_w (pm_w (pm_w I 143 (8 + p) (-1)) 143 (48 + p) (-1)) 143 (56 + p) x 143 (56 + p) = x := fun x => ⟨by rw [zt_w2 (by omega), zt_w2 (by omega), zt_ws], by rw [zt_w2 (by omega), zt_ws], zt_ws⟩
    have oth : ∀ a : Nat, a ≠ 143 → ∀ x : Int32, pm_w (pm_w (pm_w I 143 (8 + p) (-1)) 143 (48 + p) (-1)) 143 (56 + p) x a = I a := fun a ha x => by rw [zt_wc ha, zt_wc ha, zt_wc ha]
    obtain ⟨I', e, a, b, c, g⟩ := ih (p + 1) fu (pm_w (pm_w (pm_w I 143 (8 + p) (-1)) 143 (48 + p) (-1)) 143 (56 + p) (if p < n then I 132 (4 * p + 3) else 0)) (by omega) (by rw [oth 127 (by decide)]; exact hn)
    refine ⟨I', ?_, fun q hq => by rw [a q hq, oth q hq], fun q h1 h2 => ?_, by rw [c, oth 127 (by decide)], fun j hj h1 h2 h3 => ?_⟩
    · rw [show fu + (d + 1) + 1 = (fu + d + 1) + 1 by omega, f217_L, j8, j48, j56, j4, i8, nI_toInt (by omega), if_pos (by omega), zt_in (by omega) (by omega), zt_gd, pm_lt_eq, zt_in (by omega) (by omega), zt_gd, pm_lt_eq, nI_clamp (by omega), nI_clamp (by omega), zt_wc (show 127 ≠ 143 by decide), zt_wc (show 127 ≠ 143 by decide), hn, nI_toInt (by omega), zt_in (by omega) (by omega), zt_gd, zt_in (by omega) (by omega), zt_gd, nI_clamp (by omega), nI_clamp (by omega), nI_1, zt_gd, pm_lt_eq, pm_lt_eq, zt_wc (show 132 ≠ 143 by decide), zt_wc (show 132 ≠ 143 by decide)]
      by_cases z : p < n
      · rw [if_pos (by omega)]
        rw [if_pos z] at e
        exact e
      · rw [if_neg (by omega)]
        rw [if_neg z] at e
        exact e
    · by_cases z : q = p
      · subst z
        obtain ⟨c1, c2, c3⟩ := cell (if q < n then I 132 (4 * q + 3) else 0)
        rw [g (8 + q) (by omega) (by omega) (by omega) (by omega), g (48 + q) (by omega) (by omega) (by omega) (by omega), g (56 + q) (by omega) (by omega) (by omega) (by omega)]
        exact ⟨c1, c2, c3⟩
      · have := b q (by omega) h2
        rw [oth 132 (by decide)] at this
        exact this
    · rw [g j hj (by omega) (by omega) (by omega), zt_w2 (by omega), zt_w2 (by omega), zt_w2 (by omega)]
/-- the row that it sets -/
theorem e217 {n t : Nat} {D : Nat → Nat → Nat} (h : pm_MD n t D I) (hD : pm_DR n t D) : ∃ I', f217 I J = some ((), I', J) ∧ pm_MR n t D I' ∧ I' 138 0 = nI 0 ∧ I' 138 1 = nI 0 ∧ I' 127 45 = nI 0 ∧ I' 127 32 = nI 0 ∧ I' 127 58 = nI 0 ∧ I' 127 33 = nI 0 ∧ (∀ j, j < 48 → I' 143 j = if 8 ≤ j ∧ j < 16 then -1 else 0) ∧ (∀ q, q < 8 → I' 143 (48 + q) = -1) ∧ (∀ q, q < n → I' 143 (56 + q) = nI (D 4 q)) ∧ I' 143 64 = 0 ∧ I' 143 65 = nI (D 9 0) := by
  obtain ⟨⟨hn8, ht5⟩, ⟨d14, d15, d16, d17⟩, dn, dt⟩ := id h
  have c1 := fun I0 : Nat → Nat → Int32 => e218 (I := I0) (J := J) (a1 := 130) (n1 := 32) (a2 := 132) (n2 := 32) (c := 32) (by omega) (by omega) (by omega) (by omega)
  have c2 := fun I0 : Nat → Nat → Int32 => e218 (I := I0) (J := J) (a1 := 131) (n1 := 15) (a2 := 133) (n2 := 15) (c := 15) (by omega) (by omega) (by omega) (by omega)
  have c1' : ∀ I0 : Nat → Nat → Int32, f218 130 32 132 32 32 I0 J = some ((), va_up I0 132 (pm_fil (I0 130) (I0 132) 32), J) := c1
  have c2' : ∀ I0 : Nat → Nat → Int32, f218 131 15 133 15 15 I0 J = some ((), va_up I0 133 (pm_fil (I0 131) (I0 133) 15), J) := c2
  obtain ⟨Ia, hIa⟩ : ∃ Ia, Ia = pm_w (pm_w (pm_w I 127 18 (nI n)) 127 19 (nI t)) 127 20 (nI (D 8 0)) := ⟨_, rfl⟩
  obtain ⟨Ib, hIb⟩ : ∃ Ib, Ib = va_up (va_up Ia 132 (pm_fil (I 130) (I 132) 32)) 133 (pm_fil (I 131) (I 133) 15) := ⟨_, rfl⟩
  obtain ⟨Ic, hIc⟩ : ∃ Ic, Ic = pm_w (pm_w (pm_w (pm_w (pm_w (pm_w Ib 138 0 0) 138 1 0) 127 45 0) 127 32 0) 127 58 0) 127 33 0 := ⟨_, rfl⟩
  have oa : ∀ a, a ≠ 127 → Ia a = I a := fun a ha => by rw [hIa, zt_wc ha, zt_wc ha, zt_wc ha]
  have ob : ∀ a, a ≠ 127 → a ≠ 132 → a ≠ 133 → Ib a = I a := fun a h1 h2 h3 => by rw [hIb, va_up_ne _ _ h3, va_up_ne _ _ h2, oa a h1]
  have b127 : Ib 127 = Ia 127 := by rw [hIb, va_up_ne _ _ (by decide), va_up_ne _ _ (by decide)]
  have b132 : Ib 132 = pm_fil (I 130) (I 132) 32 := by rw [hIb, va_up_ne _ _ (by decide), va_up_self]
  have b133 : Ib 133 = pm_fil (I 131) (I 133) 15 := by rw [hIb, va_up_self]
  have oc : ∀ a, a ≠ 127 → a ≠ 138 → Ic a = Ib a := fun a h1 h2 => by rw [hIc, zt_wc h1, zt_wc h1, zt_wc h1, zt_wc h1, zt_wc h2, zt_wc h2]
  have fc : ∀ f, f ≠ 45 → f ≠ 32 → f ≠ 58 → f ≠ 33 → Ic 127 f = Ia 127 f := fun f h1 h2 h3 h4 => by rw [hIc, zt_wf h4, zt_wf h3, zt_wf h2, zt_wf h1, zt_wc (by decide), zt_wc (by decide), b127]
  have f18 : Ic 127 18 = nI n := by rw [fc 18 (by decide) (by decide) (by decide) (by decide), hIa, zt_w2 (by omega), zt_w2 (by omega), zt_ws]
  have f19 : Ic 127 19 = nI t := by rw [fc 19 (by decide) (by decide) (by decide) (by decide), hIa, zt_w2 (by omega), zt_ws]
  have f20 : Ic 127 20 = nI (D 8 0) := by rw [fc 20 (by decide) (by decide) (by decide) (by decide), hIa, zt_ws]
  have f16 : Ic 127 16 = nI (D 9 0) := by rw [fc 16 (by decide) (by decide) (by decide) (by decide), hIa, zt_w2 (by omega), zt_w2 (by omega), zt_w2 (by omega)]; exact d16
  obtain ⟨fu, hfu⟩ : ∃ fu, pm_FU = (fu + 8 + 1) + 66 + 1 := ⟨pm_FU - 76, by unfold pm_FU; omega⟩
  obtain ⟨Id, ed, ad, bd⟩ := l217a (J := J) 66 0 (fu + 8 + 1) Ic (by omega)
  rw [nI_0] at ed
  obtain ⟨Ie, ee, ae, be, ce, ge⟩ := l217b (J := J) hn8 8 0 fu Id (by omega) (by rw [ad 127 (by decide)]; exact f18)
  rw [nI_0] at ee
  have oe : ∀ a, a ≠ 143 → Ie a = Ic a := fun a ha => by rw [ae a ha, ad a ha]
  have e127 : Ie 127 = Ic 127 := oe 127 (by decide)
  have e132 : Ie 132 = pm_fil (I 130) (I 132) 32 := by rw [oe 132 (by decide), oc 132 (by decide) (by decide), b132]
  have e133 : Ie 133 = pm_fil (I 131) (I 133) 15 := by rw [oe 133 (by decide), oc 133 (by decide) (by decide), b133]
  refine ⟨Ie, ?_, ⟨by rw [e127]; exact f18, by rw [e127]; exact f19, by rw [e127]; exact f20, hn8, ht5, fun p hp => ?_, fun b hb => ?_⟩, ?_, ?_, ?_, ?_, ?_, ?_, fun j hj => ?_, fun q hq => (be q (by omega) hq).2.1, fun q hq => ?_, ?_, ?_⟩
  · unfold f217
    rw [d14, pm_lt_eq, zt_w2 (by omega), d15, pm_lt_eq, zt_w2 (by omega), zt_w2 (by omega), d17, pm_lt_eq, ← hIa, c1', zt_bind]
    dsimp only
    rw [c2', zt_bind]
    dsimp only
    rw [va_up_ne _ _ (show 131 ≠ 132 by decide), va_up_ne _ _ (show 133 ≠ 132 by decide), oa 130 (by decide), oa 132 (by decide), oa 131 (by decide), oa 133 (by decide), ← hIb]
    have step : (pm_gd (pm_in 0 2) (pm_lt (pm_w Ib 138 (0 : Int32).toNatClampNeg 0) (fun I13 => pm_gd (pm_in 1 2) (pm_lt (pm_w I13 138 (1 : Int32).toNatClampNeg 0) (fun I15 => pm_lt (pm_w I15 127 45 0) (fun I16 => pm_lt (pm_w I16 127 32 0) (fun I17 => pm_lt (pm_w I17 127 58 0) (fun I18 => pm_lt (pm_w I18 127 33 0) (fun I19 => f217_L pm_FU 0 0 I19 J)))))))) : Option (Unit × (Nat → Nat → Int32) × (Nat → Nat → Int64))) = f217_L pm_FU 0 0 Ic J := by
      have z0 : pm_in 0 2 = true := by decide
      have z1 : pm_in 1 2 = true := by decide
      have y0 : (0 : Int32).toNatClampNeg = 0 := by decide
      have y1 : (1 : Int32).toNatClampNeg = 1 := by decide
      rw [z0, zt_gd, pm_lt_eq, z1, zt_gd, pm_lt_eq, pm_lt_eq, pm_lt_eq, pm_lt_eq, pm_lt_eq, y0, y1, ← hIc]
    rw [step, hfu, ed]
    exact ee
  · rw [e132, fil_in (by omega), fil_in (by omega), fil_in (by omega)]
    exact ⟨(dn p hp).1, (dn p hp).2.1, (dn p hp).2.2.1⟩
  · rw [e133, fil_in (by omega), fil_in (by omega), fil_in (by omega)]
    exact dt b hb
  · rw [oe 138 (by decide), hIc, zt_wc (by decide), zt_wc (by decide), zt_wc (by decide), zt_wc (by decide), zt_w2 (by omega), zt_ws]; rfl
  · rw [oe 138 (by decide), hIc, zt_wc (by decide), zt_wc (by decide), zt_wc (by decide), zt_wc (by decide), zt_ws]; rfl
  · rw [e127, hIc, zt_w2 (by omega), zt_w2 (by omega), zt_w2 (by omega), zt_ws]; rfl
  · rw [e127, hIc, zt_w2 (by omega), zt_w2 (by omega), zt_ws]; rfl
  · rw [e127, hIc, zt_w2 (by omega), zt_ws]; rfl
  · rw [e127, hIc, zt_ws]; rfl
  · by_cases z : 8 ≤ j ∧ j < 16
    · rw [if_pos z]
      have := (be (j - 8) (by omega) (by omega)).1
      rw [show 8 + (j - 8) = j by omega] at this
      exact this
    · rw [if_neg z, ge j (by omega) (by omega) (by omega) (by omega), bd j (by omega), if_pos (by omega)]
  · have := (be q (by omega) (by omega)).2.2
    rw [this, if_pos hq, ad 132 (by decide), oc 132 (by decide) (by decide), b132, fil_in (by omega)]
    exact (dn q hq).2.2.2
  · rw [ge 64 (by omega) (by omega) (by omega) (by omega), bd 64 (by omega), if_pos (by omega)]
  · rw [ce, ad 127 (by decide)]
    exact f16
end Rg
/-- the numbers told are such -/
theorem rb_D {c : Nat → Nat} {L cl i n t : Nat} {D : Nat → Nat → Nat} (hD : pm_DR n t D) (h9 : D 9 0 ≤ 400) : ∀ i' n' t' D', pm_rb c L cl i n t D = .inr (i', n', t', D') → pm_DR n' t' D' ∧ D' 9 0 ≤ 400 := by
  intro i' n' t' D' h
  obtain ⟨d1, d2, d3⟩ := hD
  unfold pm_rb at h
  split at h
  · split at h
    · cases h
    · rename_i z1
      split at h
      · cases h
      · rename_i z2
        split at h
        · cases h
        · rename_i z3
          cases h
          have y1 := (nk_0 (Decidable.not_not.mp z1)).2.2
          have y2 := (nk_0 (Decidable.not_not.mp z2)).2.2
          have y3 := (nk_0 (Decidable.not_not.mp z3)).2.2
          refine ⟨⟨fun p hp => ?_, fun b hb => ?_, ?_⟩, ?_⟩
          · unfold pm_Ds
            by_cases q : p = n
            · subst q
              simp only [and_self, if_true, true_and, show ¬ (2 : Nat) = 1 by decide, show ¬ (3 : Nat) = 1 by decide, show ¬ (3 : Nat) = 2 by decide, if_false]
              omega
            · simp only [q, false_and, if_false]
              exact d1 p (by omega)
          · unfold pm_Ds
            simp only [show ¬ (5 : Nat) = 1 by decide, show ¬ (5 : Nat) = 2 by decide, show ¬ (5 : Nat) = 3 by decide, show ¬ (5 : Nat) = 4 by decide, show ¬ (6 : Nat) = 1 by decide, show ¬ (6 : Nat) = 2 by decide, show ¬ (6 : Nat) = 3 by decide, show ¬ (6 : Nat) = 4 by decide, show ¬ (7 : Nat) = 1 by decide, show ¬ (7 : Nat) = 2 by decide, show ¬ (7 : Nat) = 3 by decide, show ¬ (7 : Nat) = 4 by decide, and_false, if_false]
            exact d2 b hb
          · unfold pm_Ds
            rw [if_neg (by omega), if_neg (by omega), if_neg (by omega), if_neg (by omega)]
            exact d3
          · unfold pm_Ds
            rw [if_neg (by omega), if_neg (by omega), if_neg (by omega), if_neg (by omega)]
            exact h9
  · split at h
    · split at h
      · cases h
      · rename_i z1
        split at h
        · cases h
        · rename_i z2
          split at h
          · cases h
          · rename_i z3
            cases h
            have y1 := (nk_0 (Decidable.not_not.mp z1)).2.2
            have y2 := (nk_0 (Decidable.not_not.mp z2)).2.2
            have y3 := (nk_0 (Decidable.not_not.mp z3)).2
            refine ⟨⟨fun p hp => ?_, fun b hb => ?_, ?_⟩, ?_⟩
            · unfold pm_Dt
              simp only [show ¬ (1 : Nat) = 5 by decide, show ¬ (1 : Nat) = 6 by decide, show ¬ (1 : Nat) = 7 by decide, show ¬ (2 : Nat) = 5 by decide, show ¬ (2 : Nat) = 6 by decide, show ¬ (2 : Nat) = 7 by decide, show ¬ (3 : Nat) = 5 by decide, show ¬ (3 : Nat) = 6 by decide, show ¬ (3 : Nat) = 7 by decide, and_false, if_false]
              exact d1 p hp
            · unfold pm_Dt
              by_cases q : b = t
              · subst q
                simp only [and_self, if_true, true_and, show ¬ (6 : Nat) = 5 by decide, show ¬ (7 : Nat) = 5 by decide, show ¬ (7 : Nat) = 6 by decide, if_false]
                omega
              · simp only [q, false_and, if_false]
                exact d2 b (by omega)
            · unfold pm_Dt
              rw [if_neg (by omega), if_neg (by omega), if_neg (by omega)]
              exact d3
            · unfold pm_Dt
              rw [if_neg (by omega), if_neg (by omega), if_neg (by omega)]
              exact h9
    · have one : ∀ b q v : Nat, (b = 4 ∨ (b = 9 ∧ v ≤ 400) ∨ (b = 8 ∧ v ≤ 20)) → pm_DR n t (pm_D1 D b q v) ∧ pm_D1 D b q v 9 0 ≤ 400 := by
        intro b q v hb
        have dd : ∀ a p : Nat, a ≠ b → pm_D1 D b q v a p = D a p := fun a p ha => by unfold pm_D1; rw [if_neg (by omega)]
        refine ⟨⟨fun p hp => ?_, fun e he => ?_, ?_⟩, ?_⟩
        · rw [dd 1 p (by omega), dd 2 p (by omega), dd 3 p (by omega)]; exact d1 p hp
        · rw [dd 5 e (by omega), dd 6 e (by omega), dd 7 e (by omega)]; exact d2 e he
        · unfold pm_D1
          split <;> omega
        · unfold pm_D1
          split <;> omega
      split at h
      · split at h
        · cases h
        · split at h
          · cases h
          · cases h
            exact one 4 _ _ (Or.inl rfl)
      · split at h
        · split at h
          · cases h
          · rename_i z1
            cases h
            exact one 9 0 _ (Or.inr (Or.inl ⟨rfl, (nk_0 (Decidable.not_not.mp z1)).2.2⟩))
        · split at h
          · cases h
          · rename_i z1
            cases h
            exact one 8 0 _ (Or.inr (Or.inr ⟨rfl, (nk_0 (Decidable.not_not.mp z1)).2.2⟩))
theorem rcl_D {c : Nat → Nat} {L i n t : Nat} {D : Nat → Nat → Nat} {full : Bool} (hD : pm_DR n t D) (h9 : D 9 0 ≤ 400) : ∀ i' n' t' D', pm_rcl c L full i n t D = .inr (i', n', t', D') → pm_DR n' t' D' ∧ D' 9 0 ≤ 400 := by
  intro i' n' t' D' h
  unfold pm_rcl at h
  split at h
  · cases h
  · split at h
    · cases h
    · cases y : pm_rb c L (pm_rI c L i) (pm_nxt c L i) n t D with
      | inl f => rw [y] at h; cases h
      | inr f =>
        obtain ⟨j, n1, t1, D1⟩ := f
        rw [y] at h
        dsimp only [pm_rs] at h
        split at h
        · cases h
          exact rb_D hD h9 _ _ _ _ y
        · cases h
theorem rgs_D {c : Nat → Nat} {L : Nat} : ∀ d i m n t (D : Nat → Nat → Nat), pm_DR n t D → D 9 0 ≤ 400 → ∀ n' t' D', pm_rgs c L d i m n t D = .inr (n', t', D') → pm_DR n' t' D' ∧ D' 9 0 ≤ 400 := by
  intro d
  induction d with
  | zero =>
    intro i m n t D hD h9 n' t' D' h
    rw [pm_rgs] at h
    cases h
    exact ⟨hD, h9⟩
  | succ d ih =>
    intro i m n t D hD h9 n' t' D' h
    rw [pm_rgs] at h
    by_cases b : i < L
    · rw [if_pos b] at h
      cases y : pm_rcl c L (decide (m = 60)) i n t D with
      | inl f => rw [y] at h; cases h
      | inr f =>
        obtain ⟨j, n1, t1, D1⟩ := f
        rw [y] at h
        obtain ⟨q1, q2⟩ := rcl_D hD h9 _ _ _ _ y
        exact ih j (m + 1) n1 t1 D1 q1 q2 n' t' D' h
    · rw [if_neg b] at h
      cases h
      exact ⟨hD, h9⟩
