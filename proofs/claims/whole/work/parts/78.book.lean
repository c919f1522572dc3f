/-! THE BOOK: the reference -/
def pm_NB (m : Nat) (X Y : Nat → Nat) (I : Nat → Nat → Int32) : Prop := m ≤ 8 ∧ ∀ j, j < m → X j ≤ 499 ∧ Y j ≤ 999 ∧ I 146 (2 * j) = nI (X j) ∧ I 146 (2 * j + 1) = nI (Y j)
section Bt
variable {I : Nat → Nat → Int32} {J : Nat → Nat → Int64}
theorem MX_8 {q p : Nat} {x : Int32} (h : pm_MX q p I) : pm_MX q p (pm_w I 127 8 x) := by
  unfold pm_MX
  rw [zt_w2 (by omega), zt_w2 (by omega)]
  exact h
theorem e239x {q p : Nat} {y : Int32} (h : pm_MX q p I) : f239 y I J = some (nI q - 10, pm_w I 127 8 (I 127 5), J) := by
  unfold f239
  rw [pm_lt_eq, v224x (MX_8 h), if_neg (by decide), (MX_8 h).2.1]
theorem e239f {c : Nat → Nat} {L a : Nat} {y : Int32} (h : pm_MF c L a I) : f239 y I J = some (y, pm_w I 127 8 (-1), J) := by
  unfold f239 v224
  rw [pm_lt_eq, zt_w2 (by omega), h.2.2.2, if_pos rfl, if_pos rfl]
/-- at fault it goes to its end -/
theorem x273 {q p z fu : Nat} {y2 y3 y4 y5 : Int32} (h : pm_MX q p I) : ∃ I', f273_L (fu + 1) z y2 y3 y4 y5 I J = some (nI q - 10, I', J) ∧ I' 127 8 = nI p ∧ I' 127 45 = I 127 45 ∧ I' 147 = I 147 := by
  refine ⟨pm_w I 127 8 (I 127 5), ?_, by rw [zt_ws]; exact h.1, zt_w2 (by omega), zt_wc (by omega)⟩
  cases z with
  | zero =>
    rw [f273_L, v224x h, if_neg (by decide), e239x h, zt_bind]
    dsimp only
    rw [if_neg (MX_n (MX_8 h))]
  | succ z =>
    rw [f273_L]
    simp only [v224x h, Bool.false_eq_true, if_false, e235x h, zt_bind, e238x h, e239x h, if_neg (MX_n (MX_8 (x := I 127 5) h)), ite_self]
theorem NB_ag {m : Nat} {X Y : Nat → Nat} {I' : Nat → Nat → Int32} (h : pm_NB m X Y I) (e : I' 146 = I 146) : pm_NB m X Y I' := by
  unfold pm_NB
  rw [e]
  exact h
/-- is the week told already -/
theorem l273 {c : Nat → Nat} {L a m v st : Nat} {X Y : Nat → Nat} (h : pm_MF c L a I) (hB : pm_NB m X Y I) (hv : v ≤ 499) (hst : st ≤ L) : ∀ d i fu : Nat, i + d = m → d + 1 < fu → (pm_tol X v i d = true → ∃ I', f273_L fu 1 (nI m) (nI st) (nI v) (nI i) I J = some (nI 2 - 10, I', J) ∧ I' 127 8 = nI st ∧ I' 127 45 = I 127 45 ∧ I' 147 = I 147) ∧ (pm_tol X v i d = false → f273_L fu 1 (nI m) (nI st) (nI v) (nI i) I J = f273_L (fu - d) 1 (nI m) (nI st) (nI v) (nI m) I J) := by
  intro d
  have hm := hB.1
  induction d with
  | zero =>
    intro i fu hi hf
    rw [pm_tol, show i = m by omega, Nat.sub_zero]
    exact ⟨fun q => (by cases q), fun _ => rfl⟩
  | succ d ih =>
    intro i fu hi hf
    obtain ⟨fu, rfl⟩ : ∃ k, fu = k + 1 := ⟨fu - 1, by omega⟩
    obtain ⟨x1, x2, x3, x4⟩ := hB.2 i (by omega)
    have st1 : f273_L (fu + 1) 1 (nI m) (nI st) (nI v) (nI i) I J = if X i = v then (f232 2 (nI st) I J).bind (fun (ov185, I186, J187) => f273_L fu 1 (nI m) (nI st) (nI v) (nI (i + 1)) I186 J187) else f273_L fu 1 (nI m) (nI st) (nI v) (nI (i + 1)) I J := by
      rw [f273_L, v224f h, nI_toInt (by omega), nI_toInt (by omega), if_pos (show (i : Int) < (m : Nat) by omega), if_pos rfl, zt_lit 2, pk_mul, zt_in (by omega) (by omega), zt_gd, nI_clamp (by omega), x3, nI_1]
      by_cases w : X i = v
      · rw [if_pos w, if_pos (by rw [w])]
      · rw [if_neg w, if_neg (by rw [zt_eq (by omega) (by omega)]; exact w)]
    rw [st1, pm_tol]
    by_cases w : X i = v
    · obtain ⟨I2, e2, m2⟩ := MF_wrong (J := J) (k := 2) (p := st) h (by omega) hst
      have e2' : f232 2 (nI st) I J = some ((), I2, J) := e2
      have g2 := (fr_232 _ _ _ e2').1
      obtain ⟨fu, rfl⟩ : ∃ k, fu = k + 1 := ⟨fu - 1, by omega⟩
      obtain ⟨I3, e3, a3, b3, c3⟩ := x273 (J := J) (z := 1) (fu := fu) (y2 := nI m) (y3 := nI st) (y4 := nI v) (y5 := nI (i + 1)) m2
      rw [if_pos w, e2', zt_bind, decide_eq_true w, Bool.true_or]
      dsimp only
      refine ⟨fun _ => ⟨I3, e3, a3, ?_, ?_⟩, fun q => by cases q⟩
      · rw [b3, g2 127 45 (by decide) (by decide)]
      · rw [c3, ag_cell g2 (by decide) (by intro f; simp)]
    · rw [if_neg w, decide_eq_false w, Bool.false_or]
      have := ih (i + 1) fu (by omega) (by omega)
      rw [show fu + 1 - (d + 1) = fu - d by omega]
      exact this
end Bt
