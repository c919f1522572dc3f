/-! BEST: the class gathers its units -/
def pm_GU (D : Nat → Nat → Nat) (w : Nat → Int32) (t : Nat) (g : Nat → Nat → Nat) (p : Nat) (I : Nat → Nat → Int32) : Prop := I 104 7 = nI (pm_ut D w p).2 ∧ I 104 8 = nI t ∧ (∀ q, q < p → I 106 q = if pm_ash w q = true then nI ((pm_ut D w p).1 q) else -1) ∧ (∀ u, u < (pm_ut D w p).2 → I 107 u = nI (pm_uz D w p u)) ∧ ∀ u b, u < (pm_ut D w p).2 → b < t → I 108 (5 * u + b) = nI (pm_ug D w g p u b)
section Bd2
variable {I : Nat → Nat → Int32} {J : Nat → Nat → Int64} {r : Nat}
theorem l66 {n t p : Nat} {D : Nat → Nat → Nat} {w : Nat → Int32} {uo : Nat → Nat} (hR : pm_CR r n t D I) (hD : pm_DR n t D) (hp : p < n) (hU : ∀ q, q < p → uo q ≤ 8) (h6 : ∀ q, q < p → I 106 q = if pm_ash w q = true then nI (uo q) else -1) : ∀ d o fu, o + d = p → d < fu → f66_2 r fu (nI p) (nI o) I J = some ((match pm_fko D w p d o with | some q => nI (uo q) | none => -1), I, J) := by
  have h8 := hR.2.2.2.2.1
  intro d
  induction d with
  | zero =>
    intro o fu ho hf
    obtain ⟨fu, rfl⟩ : ∃ k, fu = k + 1 := ⟨fu - 1, by omega⟩
    rw [f66_2, if_neg (by rw [nI_toInt (by omega), nI_toInt (by omega)]; omega)]
    rfl
  | succ d ih =>
    intro o fu ho hf
    obtain ⟨fu, rfl⟩ : ∃ k, fu = k + 1 := ⟨fu - 1, by omega⟩
    have a106 : pm_at (I 106) 8 (nI o) = if pm_ash w o = true then nI (uo o) else -1 := by rw [zt_at (by omega) (by omega)]; exact h6 o (by omega)
    have ub := hU o (by omega)
    rw [f66_2, if_pos (by rw [nI_toInt (by omega), nI_toInt (by omega)]; omega), e85 hR hD hp (by omega), zt_bind, pm_fko]
    dsimp only
    rw [a106, nI_1]
    by_cases c : pm_kP D p o = true
    · rw [if_pos c]
      by_cases c2 : pm_ash w o = true
      · rw [if_pos c2, if_neg (show ¬ nI (uo o) = -1 by rw [zt_m1', zt_eqm (by omega)]; exact id), if_pos (by rw [c, c2]; rfl)]
      · rw [if_neg c2, if_pos rfl, if_neg (by rw [c, Bool.eq_false_iff.mpr c2]; decide)]
        exact ih (o + 1) fu (by omega) (by omega)
    · rw [if_neg c, if_neg (by rw [Bool.eq_false_iff.mpr c, Bool.false_and]; decide)]
      exact ih (o + 1) fu (by omega) (by omega)
theorem l65b {n t p u : Nat} {D : Nat → Nat → Nat} {o : Int32} {Bs G : Nat → Nat} (hD : pm_DR n t D) (hp : p < n) (t5 : t ≤ 5) (hu : u < 8) (hG : ∀ b, b < t → pm_gv D o b p = nI (G b) ∧ G b ≤ 775) (hBs : ∀ b, b < t → Bs b ≤ 100000) : ∀ d b fu (I : Nat → Nat → Int32), b + d = t → d < fu → pm_CR r n t D I → I 104 8 = nI t → (∀ q, q < t → I 108 (5 * u + q) = nI (if q < b then Bs q + G q else Bs q)) → ∃ I', f65_L r fu 1 (nI p) (nI u) o (nI b) I J = some ((), I', J) ∧ (∀ q, q < t → I' 108 (5 * u + q) = nI (Bs q + G q)) ∧ (∀ j, (j < 5 * u ∨ 5 * u + 5 ≤ j) → I' 108 j = I 108 j) ∧ ∀ a, a ≠ 108 → I' a = I a := by
  intro d
  induction d with
  | zero =>
    intro b fu I hb hf hR h8 hq
    obtain ⟨fu, rfl⟩ : ∃ k, fu = k + 1 := ⟨fu - 1, by omega⟩
    refine ⟨I, ?_, fun q hq2 => by rw [hq q hq2, if_pos (by omega)], fun _ _ => rfl, fun _ _ => rfl⟩
    rw [f65_L, h8, if_neg (by rw [nI_toInt (by omega), nI_toInt (by omega)]; omega)]
  | succ d ih =>
    intro b fu I hb hf hR h8 hq
    obtain ⟨fu, rfl⟩ : ∃ k, fu = k + 1 := ⟨fu - 1, by omega⟩
    have hr := hR.1
    have i5 : nI u * 5 + nI b = nI (5 * u + b) := by rw [zt_lit 5, pk_mul, nI_add, Nat.mul_comm]
    obtain ⟨g1, g2⟩ := hG b (by omega)
    have bb := hBs b (by omega)
    have a108 : pm_at (I 108) 40 (nI (5 * u + b)) = nI (Bs b) := by rw [zt_at (by omega) (by omega), hq b (by omega), if_neg (by omega)]
    have e6 : v56 r (nI p) o (nI b) I = nI (G b) := by rw [e56 hR hD hp (by omega)]; exact g1
    obtain ⟨I', e, q1, q2, q3⟩ := ih (b + 1) fu (pm_w I 108 (5 * u + b) (nI (Bs b + G b))) (by omega) (by omega) (CR_cell hR (fun j hj => zt_wc (by omega))) (by rw [zt_wc (by decide)]; exact h8) (fun q hq2 => by
      by_cases z : q = b
      · rw [z, zt_ws, if_pos (by omega)]
      · rw [zt_w2 (by omega), hq q hq2]
        by_cases z2 : q < b
        · rw [if_pos z2, if_pos (by omega)]
        · rw [if_neg z2, if_neg (by omega)])
    refine ⟨I', ?_, q1, fun j hj => by rw [q2 j hj, zt_wf (by omega)], fun a ha => by rw [q3 a ha, zt_wc ha]⟩
    rw [f65_L, h8, if_pos (by rw [nI_toInt (by omega), nI_toInt (by omega)]; omega), i5, a108, e6, nI_add, zt_pw (by omega) (by omega), pm_lt_eq, nI_1]
    exact e
theorem l65a {p u : Nat} (hp : p < 8) (hu : u < 8) : ∀ d b fu (I : Nat → Nat → Int32), b + d = 5 → (∀ q, q < b → I 108 (5 * u + q) = nI 0) → ∃ I', f65_L r (fu + d + 1) 0 (nI p) (nI u) (nI b) 0 I J = (f47 r (nI p) (pm_pw (pm_w I' 106 p (nI u)) 107 8 (nI u) (pm_at (pm_w I' 106 p (nI u) 107) 8 (nI u) + 1)) J).bind (fun (ov4, I5, J6) => f65_L r fu 1 (nI p) (nI u) ov4 0 I5 J6) ∧ (∀ q, q < 5 → I' 108 (5 * u + q) = nI 0) ∧ (∀ j, (j < 5 * u ∨ 5 * u + 5 ≤ j) → I' 108 j = I 108 j) ∧ ∀ a, a ≠ 108 → I' a = I a := by
  have i5 : ((5 : Int32)).toInt = 5 := by decide
  intro d
  induction d with
  | zero =>
    intro b fu I hb hq
    refine ⟨I, ?_, fun q hq2 => hq q (by omega), fun _ _ => rfl, fun _ _ => rfl⟩
    rw [Nat.add_zero, f65_L, i5, nI_toInt (by omega), if_neg (by omega), pm_lt_eq, pm_lt_eq, show pm_pw I 106 8 (nI p) (nI u) = pm_w I 106 p (nI u) from zt_pw (by omega) (by omega)]
  | succ d ih =>
    intro b fu I hb hq
    have i5' : nI u * 5 + nI b = nI (5 * u + b) := by rw [zt_lit 5, pk_mul, nI_add, Nat.mul_comm]
    obtain ⟨I', e, q1, q2, q3⟩ := ih (b + 1) fu (pm_w I 108 (5 * u + b) 0) (by omega) (fun q hq2 => by
      by_cases z : q = b
      · rw [z, zt_ws]; rfl
      · rw [zt_w2 (by omega)]; exact hq q (by omega))
    refine ⟨I', ?_, q1, fun j hj => by rw [q2 j hj, zt_wf (by omega)], fun a ha => by rw [q3 a ha, zt_wc ha]⟩
    rw [show fu + (d + 1) + 1 = (fu + d + 1) + 1 by omega, f65_L, i5, nI_toInt (by omega), if_pos (by omega), i5', zt_pw (by omega) (by omega), pm_lt_eq, nI_1]
    exact e
theorem e65 {n t l0 l1 p : Nat} {D : Nat → Nat → Nat} {k0 k1 : Nat → Nat} {w : Nat → Int32} (hQ : pm_CQ r n t D l0 k0 l1 k1 I) (hw : I 5 = w) (hi : pm_inv n w) (hp : p < n) (ha : pm_ash w p = true) (hG : pm_GU D w t (pm_gN l0 k0 D n w) p I) : ∃ I', f65 r (nI p) I J = some ((), I', J) ∧ pm_GU D w t (pm_gN l0 k0 D n w) (p + 1) I' := by
  obtain ⟨h7, h8, h6, h107, h108⟩ := hG
  have n8 := hQ.1.2.2.2.2.1
  have t5 := hQ.1.2.2.2.2.2.1
  have hr := hQ.1.1
  obtain ⟨u1, u2⟩ := ut_lt (D := D) (w := w) p
  have e66 := l66 (J := J) (w := w) (uo := fun q => if pm_ash w q = true then (pm_ut D w p).1 q else 0) hQ.1 hQ.2.1 hp (fun q hq => by
    split
    · rename_i c
      have := u2 q hq c
      omega
    · omega) (fun q hq => by
    rw [h6 q hq]
    by_cases c : pm_ash w q = true
    · rw [if_pos c, if_pos c, if_pos c]
    · rw [if_neg c, if_neg c]) p 0 pm_FU (by omega) (by unfold pm_FU; omega)
  rw [nI_0] at e66
  have e66' : f66 r (nI p) I J = some ((match pm_fko D w p p 0 with | some q => nI (if pm_ash w q = true then (pm_ut D w p).1 q else 0) | none => -1), I, J) := e66
  have gb : ∀ u b, b < t → pm_ug D w (pm_gN l0 k0 D n w) p u b ≤ 100000 := fun u b hb => by
    have := su_le (f := fun q => if (pm_ash w q && decide ((pm_ut D w p).1 q = u)) = true then pm_gN l0 k0 D n w q b else 0) (b := 775) (n := p) (fun q hq => by
      split
      · exact (gN_n hi hQ.2.1 (by omega) hb).2
      · omega)
    have e : pm_ug D w (pm_gN l0 k0 D n w) p u b ≤ p * 775 := this
    have : p * 775 ≤ 8 * 775 := Nat.mul_le_mul_right _ (by omega)
    omega
  -- from the signer on, once the unit is known
  have go : ∀ (u : Nat) (I1 : Nat → Nat → Int32) (fu : Nat), u < 8 → 5 < fu → (∀ a, a ≠ 104 → a ≠ 107 → a ≠ 108 → I1 a = I a) → I1 104 8 = nI t → ∀ Bs : Nat → Nat, (∀ b, b < t → Bs b ≤ 100000) → (∀ b, b < t → I1 108 (5 * u + b) = nI (Bs b)) → ∀ z : Nat, z ≤ 8 → I1 107 u = nI z → ∃ I', (f47 r (nI p) (pm_pw (pm_w I1 106 p (nI u)) 107 8 (nI u) (pm_at (pm_w I1 106 p (nI u) 107) 8 (nI u) + 1)) J).bind (fun (ov4, I5, J6) => f65_L r fu 1 (nI p) (nI u) ov4 0 I5 J6) = some ((), I', J) ∧ I' 104 = I1 104 ∧ (∀ q, I' 106 q = if q = p then nI u else I 106 q) ∧ (∀ v, I' 107 v = if v = u then nI (z + 1) else I1 107 v) ∧ (∀ b, b < t → I' 108 (5 * u + b) = nI (Bs b + pm_gN l0 k0 D n w p b)) ∧ ∀ j, (j < 5 * u ∨ 5 * u + 5 ≤ j) → I' 108 j = I1 108 j := by
    intro u I1 fu hu hf o1 g8 Bs hBs hb z hz h107u
    have a107 : pm_at (pm_w I1 106 p (nI u) 107) 8 (nI u) = nI z := by rw [zt_wc (by decide), zt_at (by omega) (by omega)]; exact h107u
    rw [a107, nI_1, zt_pw (by omega) (by omega)]
    obtain ⟨I2, hI2⟩ : ∃ I2, I2 = pm_w (pm_w I1 106 p (nI u)) 107 u (nI (z + 1)) := ⟨_, rfl⟩
    rw [← hI2]
    have o2 : ∀ a, a ≠ 104 → a ≠ 106 → a ≠ 107 → a ≠ 108 → I2 a = I a := fun a h1 h2 h3 h4 => by rw [hI2, zt_wc h3, zt_wc h2, o1 a h1 h3 h4]
    have Q2 : pm_CQ r n t D l0 k0 l1 k1 I2 := CQ_cell hQ (fun a ha => o2 a (by omega) (by omega) (by omega) (by omega))
    obtain ⟨I3, e3⟩ := e47 (J := J) Q2.1 Q2.2.1 hp Q2.2.2.1 Q2.2.2.2.2.1
    have g3 := (fr_47 _ _ _ e3).1
    have o3 : ∀ a, a ≠ 8 → a ≠ 12 → I3 a = I2 a := fun a h1 h2 => ag_cell g3 (by simp; omega) (by intro f; simp)
    have w2 : I2 5 = w := by rw [o2 5 (by decide) (by decide) (by decide) (by decide)]; exact hw
    rw [w2] at e3
    obtain ⟨I4, e4, q1, q2, q3⟩ := l65b (J := J) (r := r) (u := u) (Bs := Bs) (G := pm_gN l0 k0 D n w p) (o := pm_oW l0 k0 D n w p) hQ.2.1 hp t5 hu (fun b hb => gN_n hi hQ.2.1 hp hb) hBs t 0 fu I3 (by omega) (by omega) (CR_cell Q2.1 (fun j hj => o3 _ (by omega) (by omega))) (by rw [o3 104 (by decide) (by decide), hI2, zt_wc (by decide), zt_wc (by decide)]; exact g8) (fun q hq => by rw [if_neg (by omega), o3 108 (by decide) (by decide), hI2, zt_wc (by decide), zt_wc (by decide)]; exact hb q hq)
    rw [nI_0] at e4
    refine ⟨I4, ?_, ?_, fun q => ?_, fun v => ?_, q1, fun j hj => ?_⟩
    · rw [e3, zt_bind]
      exact e4
    · rw [q3 104 (by decide), o3 104 (by decide) (by decide), hI2, zt_wc (by decide), zt_wc (by decide)]
    · rw [q3 106 (by decide), o3 106 (by decide) (by decide), hI2, zt_wc (by decide)]
      by_cases e : q = p
      · rw [e, zt_ws, if_pos rfl]
      · rw [zt_wf e, if_neg e, o1 106 (by decide) (by decide) (by decide)]
    · rw [q3 107 (by decide), o3 107 (by decide) (by decide), hI2]
      by_cases e : v = u
      · rw [e, zt_ws, if_pos rfl]
      · rw [zt_wf e, zt_wc (by decide), if_neg e]
    · rw [q2 j hj, o3 108 (by decide) (by decide), hI2, zt_wc (by decide), zt_wc (by decide)]
  have us : ∀ q, q < p → (pm_ut D w (p + 1)).1 q = (pm_ut D w p).1 q := fun q hq => ut_st p hq
  unfold f65
  rw [e66', zt_bind]
  dsimp only
  cases e : pm_fko D w p p 0 with
  | some o =>
    obtain ⟨_, o2, _, o4⟩ := fk_s p 0 o e
    have uo := u2 o (by omega) o4
    have eu2 : (pm_ut D w (p + 1)).2 = (pm_ut D w p).2 := by rw [pm_ut, if_pos ha, e]
    have eu1 : (pm_ut D w (p + 1)).1 p = (pm_ut D w p).1 o := by rw [pm_ut, if_pos ha, e]; exact if_pos rfl
    have zb : pm_uz D w p ((pm_ut D w p).1 o) ≤ 8 := Nat.le_trans (cn_le _ _) (by omega)
    have eo : (if pm_ash w o = true then (pm_ut D w p).1 o else 0) = (pm_ut D w p).1 o := if_pos o4
    simp only [eo]
    rw [if_neg (show ¬ nI ((pm_ut D w p).1 o) = -1 by rw [zt_m1', zt_eqm (by omega)]; exact id), pm_lt_eq, pm_lt_eq, show pm_pw I 106 8 (nI p) (nI ((pm_ut D w p).1 o)) = pm_w I 106 p (nI ((pm_ut D w p).1 o)) from zt_pw (by omega) (by omega)]
    obtain ⟨I', r1, r2, r3, r4, r5, r6⟩ := go ((pm_ut D w p).1 o) I pm_FU (by omega) (by unfold pm_FU; omega) (fun _ _ _ _ => rfl) h8 _ (fun b hb => gb ((pm_ut D w p).1 o) b hb) (fun b hb => h108 _ b uo hb) _ zb (h107 _ uo)
    refine ⟨I', r1, by rw [r2, eu2]; exact h7, by rw [r2]; exact h8, fun q hq => ?_, fun v hv => ?_, fun v b hv hb => ?_⟩
    · rw [r3 q]
      by_cases z : q = p
      · rw [if_pos z, z, if_pos ha, eu1]
      · rw [if_neg z, us q (by omega)]; exact h6 q (by omega)
    · rw [eu2] at hv
      rw [r4 v, uz_s, ha, eu1, Bool.true_and]
      by_cases z : v = (pm_ut D w p).1 o
      · rw [if_pos z, z, if_pos (decide_eq_true rfl)]
      · rw [if_neg z, if_neg (by rw [decide_eq_false (fun x => z x.symm)]; decide), Nat.add_zero]; exact h107 v hv
    · rw [eu2] at hv
      rw [ug_s, ha, eu1, Bool.true_and]
      by_cases z : v = (pm_ut D w p).1 o
      · rw [if_pos (decide_eq_true z.symm), z]; exact r5 b hb
      · rw [if_neg (by rw [decide_eq_false (fun x => z x.symm)]; decide), Nat.add_zero, r6 _ (by omega)]; exact h108 v b hv hb
  | none =>
    have eu2 : (pm_ut D w (p + 1)).2 = (pm_ut D w p).2 + 1 := by rw [pm_ut, if_pos ha, e]
    have eu1 : (pm_ut D w (p + 1)).1 p = (pm_ut D w p).2 := by rw [pm_ut, if_pos ha, e]; exact if_pos rfl
    have uz0 : pm_uz D w p (pm_ut D w p).2 = 0 := cn_none (fun q hq => by
      by_cases c : pm_ash w q = true
      · rw [c, Bool.true_and]
        have := u2 q hq c
        exact decide_eq_false (by omega)
      · rw [Bool.eq_false_iff.mpr c]; rfl)
    have ug0 : ∀ b, pm_ug D w (pm_gN l0 k0 D n w) p (pm_ut D w p).2 b = 0 := fun b => by
      unfold pm_ug
      rw [su_cong (g := fun _ => 0) (fun q hq => ?_)]
      · exact su_0
      · skip
        rw [if_neg ?_]
        intro z
        rw [Bool.and_eq_true] at z
        have := u2 q hq z.1
        have := of_decide_eq_true z.2
        omega
    dsimp only
    rw [if_pos rfl, pm_lt_eq, pm_lt_eq, h7, nI_1, zt_pw (by omega) (by omega)]
    obtain ⟨fu, hfu⟩ : ∃ fu, pm_FU = fu + 5 + 1 := ⟨pm_FU - 6, by unfold pm_FU; omega⟩
    have hfu2 : 5 < fu := by
      have : pm_FU = 100000 := rfl
      omega
    obtain ⟨I2, hI2⟩ : ∃ I2, I2 = pm_w (pm_w I 104 7 (nI ((pm_ut D w p).2 + 1))) 107 (pm_ut D w p).2 0 := ⟨_, rfl⟩
    rw [← hI2]
    obtain ⟨I3, e3, q1, q2, q3⟩ := l65a (J := J) (r := r) (p := p) (u := (pm_ut D w p).2) (by omega) (by omega) 5 0 fu I2 (by omega) (fun q hq => by omega)
    rw [nI_0] at e3
    obtain ⟨I', r1, r2, r3, r4, r5, r6⟩ := go (pm_ut D w p).2 I3 fu (by omega) hfu2 (fun a h1 h2 h3 => by rw [q3 a h3, hI2, zt_wc h2, zt_wc h1]) (by rw [q3 104 (by decide), hI2, zt_wc (by decide), zt_w2 (by omega)]; exact h8) (fun _ => 0) (fun b hb => Nat.zero_le _) (fun b hb => q1 b (by omega)) 0 (by omega) (by rw [q3 107 (by decide), hI2, zt_ws]; rfl)
    refine ⟨I', ?_, ?_, ?_, fun q hq => ?_, fun v hv => ?_, fun v b hv hb => ?_⟩
    · rw [hfu, e3]
      exact r1
    · rw [r2, q3 104 (by decide), hI2, zt_wc (by decide), zt_ws, eu2]
    · rw [r2, q3 104 (by decide), hI2, zt_wc (by decide), zt_w2 (by omega)]; exact h8
    · rw [r3 q]
      by_cases z : q = p
      · rw [if_pos z, z, if_pos ha, eu1]
      · rw [if_neg z, us q (by omega)]; exact h6 q (by omega)
    · rw [r4 v, uz_s, ha, eu1, Bool.true_and]
      by_cases z : v = (pm_ut D w p).2
      · rw [if_pos z, z, if_pos (decide_eq_true rfl), uz0]
      · rw [if_neg z, if_neg (by rw [decide_eq_false (fun x => z x.symm)]; decide), Nat.add_zero, q3 107 (by decide), hI2, zt_wf z, zt_wc (by decide)]
        exact h107 v (by omega)
    · rw [ug_s, ha, eu1, Bool.true_and]
      by_cases z : v = (pm_ut D w p).2
      · rw [if_pos (decide_eq_true z.symm), z, ug0]; exact r5 b hb
      · rw [if_neg (by rw [decide_eq_false (fun x => z x.symm)]; decide), Nat.add_zero, r6 _ (by omega), q2 _ (by omega), hI2, zt_wc (by decide), zt_wc (by decide)]
        exact h108 v b (by omega) hb
end Bd2
