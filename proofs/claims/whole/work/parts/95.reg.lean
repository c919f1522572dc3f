/-! THE REGISTER'S TEXT: a clause, the class -/
def pm_rI (c : Nat → Nat) (L i : Nat) : Nat := pm_fst c L i [2, 4, 6, 8, 10]
def pm_Ds (D : Nat → Nat → Nat) (n v1 v2 v3 : Nat) : Nat → Nat → Nat := fun a p => if p = n ∧ a = 1 then v1 else if p = n ∧ a = 2 then v2 else if p = n ∧ a = 3 then v3 else if p = n ∧ a = 4 then 0 else D a p
def pm_Dt (D : Nat → Nat → Nat) (t v1 v2 v3 : Nat) : Nat → Nat → Nat := fun a p => if p = t ∧ a = 5 then v1 else if p = t ∧ a = 6 then v2 else if p = t ∧ a = 7 then v3 else D a p
def pm_D1 (D : Nat → Nat → Nat) (b q v : Nat) : Nat → Nat → Nat := fun a p => if p = q ∧ a = b then v else D a p
def pm_rb (c : Nat → Nat) (L cl i n t : Nat) (D : Nat → Nat → Nat) : (Nat × Nat) ⊕ (Nat × Nat × Nat × (Nat → Nat → Nat)) :=
  if cl = 0 then (if pm_nk c L 1 9 i ≠ 0 then .inl (pm_nk c L 1 9 i, i)
    else if pm_nk c L 0 5 (pm_nxt c L i) ≠ 0 then .inl (pm_nk c L 0 5 (pm_nxt c L i), pm_nxt c L i)
    else if pm_nk c L 0 4 (pm_nxt c L (pm_nxt c L i)) ≠ 0 then .inl (pm_nk c L 0 4 (pm_nxt c L (pm_nxt c L i)), pm_nxt c L (pm_nxt c L i))
    else .inr (pm_nxt c L (pm_nxt c L (pm_nxt c L i)), n + 1, t, pm_Ds D n (pm_nv c L i) (pm_nv c L (pm_nxt c L i)) (pm_nv c L (pm_nxt c L (pm_nxt c L i)))))
  else if cl = 1 then (if pm_nk c L 0 5 i ≠ 0 then .inl (pm_nk c L 0 5 i, i)
    else if pm_nk c L 1 40 (pm_nxt c L i) ≠ 0 then .inl (pm_nk c L 1 40 (pm_nxt c L i), pm_nxt c L i)
    else if pm_nk c L 1 4 (pm_nxt c L (pm_nxt c L i)) ≠ 0 then .inl (pm_nk c L 1 4 (pm_nxt c L (pm_nxt c L i)), pm_nxt c L (pm_nxt c L i))
    else .inr (pm_nxt c L (pm_nxt c L (pm_nxt c L i)), n, t + 1, pm_Dt D t (pm_nv c L i) (pm_nv c L (pm_nxt c L i)) (pm_nv c L (pm_nxt c L (pm_nxt c L i)))))
  else if cl = 2 then (if pm_nkm c L n i ≠ 0 then .inl (pm_nkm c L n i, i)
    else if pm_nk c L 0 999 (pm_nxt c L i) ≠ 0 then .inl (pm_nk c L 0 999 (pm_nxt c L i), pm_nxt c L i)
    else .inr (pm_nxt c L (pm_nxt c L i), n, t, pm_D1 D 4 (pm_nv c L i) (pm_nv c L (pm_nxt c L i))))
  else if cl = 3 then (if pm_nk c L 0 400 i ≠ 0 then .inl (pm_nk c L 0 400 i, i) else .inr (pm_nxt c L i, n, t, pm_D1 D 9 0 (pm_nv c L i)))
  else (if pm_nk c L 0 20 i ≠ 0 then .inl (pm_nk c L 0 20 i, i) else .inr (pm_nxt c L i, n, t, pm_D1 D 8 0 (pm_nv c L i)))
def pm_rs (c : Nat → Nat) (L : Nat) (x : (Nat × Nat) ⊕ (Nat × Nat × Nat × (Nat → Nat → Nat))) : (Nat × Nat) ⊕ (Nat × Nat × Nat × (Nat → Nat → Nat)) := match x with
  | .inl f => .inl f
  | .inr (i, n, t, D) => if i < L ∧ c i = 59 then .inr (pm_nx1 c L i, n, t, D) else .inl (1, i)
def pm_rcl (c : Nat → Nat) (L : Nat) (full : Bool) (i n t : Nat) (D : Nat → Nat → Nat) : (Nat × Nat) ⊕ (Nat × Nat × Nat × (Nat → Nat → Nat)) :=
  if pm_rI c L i = 5 then .inl (1, i)
  else if full = true ∨ (pm_rI c L i = 0 ∧ n = 8) ∨ (pm_rI c L i = 1 ∧ t = 5) then .inl (3, i)
  else pm_rs c L (pm_rb c L (pm_rI c L i) (pm_nxt c L i) n t D)
def pm_CD (k n t : Nat) (D : Nat → Nat → Nat) (I : Nat → Nat → Int32) : Prop := ((k = 15 ∨ k = 113) ∧ n ≤ 8 ∧ t ≤ 5) ∧ (I k 7 = nI n ∧ I k 8 = nI t ∧ I k 9 = nI (D 9 0) ∧ I k 10 = nI (D 8 0)) ∧ (∀ p, p < n → I (k + 1) p = nI (D 1 p) ∧ I (k + 2) p = nI (D 2 p) ∧ I (k + 3) p = nI (D 3 p) ∧ I (k + 4) p = nI (D 4 p)) ∧ ∀ b, b < t → I (k + 5) b = nI (D 5 b) ∧ I (k + 6) b = nI (D 6 b) ∧ I (k + 7) b = nI (D 7 b)
section Rb
variable {I : Nat → Nat → Int32} {J : Nat → Nat → Int64} {k : Nat}
theorem CD_1 {n t : Nat} {D : Nat → Nat → Nat} {I' : Nat → Nat → Int32} (h : pm_CD k n t D I) (g : ∀ a, 2 < a → I' a = I a) : pm_CD k n t D I' := by
  have hk := h.1.1
  unfold pm_CD
  rw [g k (by omega), g (k + 1) (by omega), g (k + 2) (by omega), g (k + 3) (by omega), g (k + 4) (by omega), g (k + 5) (by omega), g (k + 6) (by omega), g (k + 7) (by omega)]
  exact h
theorem CX_pw {q p a len : Nat} {i x : Int32} (h : pm_CX q p I) (ha : 2 < a) : pm_CX q p (pm_pw I a len i x) := by
  unfold pm_CX pm_pw
  rw [va_up_ne _ _ (by omega)]
  exact h
theorem c134 {x y v : Int32} {I' : Nat → Nat → Int32} (e : f134 x y I J = some (v, I', J)) : ∀ a, 2 < a → I' a = I a := fun a ha => ag_cell (fr_134 _ _ _ e).1 (by simp) (by intro f; simp; omega)
theorem c128 {I' : Nat → Nat → Int32} (e : f128 I J = some ((), I', J)) : ∀ a, 2 < a → I' a = I a := fun a ha => ag_cell (fr_128 _ _ _ e).1 (by simp) (by intro f; simp; omega)
theorem c135 {x : Int32} {I' : Nat → Nat → Int32} (e : f135 x I J = some ((), I', J)) : ∀ a, 2 < a → I' a = I a := fun a ha => ag_cell (fr_135 _ _ _ e).1 (by simp) (by intro f; simp; omega)
theorem i134 {c : Nat → Nat} {L i lo hi : Nat} (h : pm_CF c L i I) (hi' : i ≤ L) (hl : lo ≤ 9999) (hh : hi ≤ 9999) : (pm_nk c L lo hi i = 0 → ∃ I', f134 (nI lo) (nI hi) I J = some (nI (pm_nv c L i), I', J) ∧ pm_CF c L (pm_nxt c L i) I') ∧ (pm_nk c L lo hi i ≠ 0 → ∃ I', f134 (nI lo) (nI hi) I J = some (0, I', J) ∧ pm_CX (pm_nk c L lo hi i) i I') := e134 h hi' hl hh
theorem e89 {c : Nat → Nat} {L i n t : Nat} {D : Nat → Nat → Nat} (h : pm_CF c L i I) (hi : i ≤ L) (hD : pm_CD k n t D I) (hb : n < 8) : (∀ q p, pm_rb c L 0 i n t D = .inl (q, p) → ∃ I', f89 k I J = some ((), I', J) ∧ pm_CX q p I') ∧ (∀ i' n' t' D', pm_rb c L 0 i n t D = .inr (i', n', t', D') → ∃ I', f89 k I J = some ((), I', J) ∧ pm_CF c L i' I' ∧ pm_CD k n' t' D' I') := by
  obtain ⟨⟨hk, hn8, ht5⟩, ⟨d7, d8, d9, d10⟩, dn, dt⟩ := id hD
  have b1 := nx_b (c := c) hi
  have b2 := nx_b (c := c) b1
  unfold f89 pm_rb
  obtain ⟨a1, a2⟩ := i134 (J := J) (lo := 1) (hi := 9) h hi (by omega) (by omega)
  rw [if_pos rfl]
  by_cases z1 : pm_nk c L 1 9 i = 0
  · obtain ⟨I1, e1, f1⟩ := a1 z1
    have e1' : f134 1 9 I J = some (nI (pm_nv c L i), I1, J) := e1
    have g1 := c134 e1'
    rw [if_neg (show ¬ pm_nk c L 1 9 i ≠ 0 by omega), e1', zt_bind]
    dsimp only
    rw [d7, zt_pw (by omega) (by omega), pm_lt_eq]
    have w1 : pm_CF c L (pm_nxt c L i) (pm_w I1 (k + 1) n (nI (pm_nv c L i))) := CF_w f1 (by omega)
    obtain ⟨a3, a4⟩ := i134 (J := J) (lo := 0) (hi := 5) w1 b1 (by omega) (by omega)
    have r1 : pm_w I1 (k + 1) n (nI (pm_nv c L i)) k 7 = nI n := by rw [zt_wc (by omega), g1 k (by omega)]; exact d7
    by_cases z2 : pm_nk c L 0 5 (pm_nxt c L i) = 0
    · obtain ⟨I2, e2, f2⟩ := a3 z2
      have e2' : f134 0 5 (pm_w I1 (k + 1) n (nI (pm_nv c L i))) J = some (nI (pm_nv c L (pm_nxt c L i)), I2, J) := e2
      have g2 := c134 e2'
      rw [if_neg (show ¬ pm_nk c L 0 5 (pm_nxt c L i) ≠ 0 by omega), e2', zt_bind]
      dsimp only
      rw [r1, zt_pw (by omega) (by omega), pm_lt_eq]
      have w2 : pm_CF c L (pm_nxt c L (pm_nxt c L i)) (pm_w I2 (k + 2) n (nI (pm_nv c L (pm_nxt c L i)))) := CF_w f2 (by omega)
      obtain ⟨a5, a6⟩ := i134 (J := J) (lo := 0) (hi := 4) w2 b2 (by omega) (by omega)
      have r2 : pm_w I2 (k + 2) n (nI (pm_nv c L (pm_nxt c L i))) k 7 = nI n := by rw [zt_wc (by omega), g2 k (by omega)]; exact r1
      by_cases z3 : pm_nk c L 0 4 (pm_nxt c L (pm_nxt c L i)) = 0
      · obtain ⟨I3, e3, f3⟩ := a5 z3
        have e3' : f134 0 4 (pm_w I2 (k + 2) n (nI (pm_nv c L (pm_nxt c L i)))) J = some (nI (pm_nv c L (pm_nxt c L (pm_nxt c L i))), I3, J) := e3
        have g3 := c134 e3'
        rw [if_neg (show ¬ pm_nk c L 0 4 (pm_nxt c L (pm_nxt c L i)) ≠ 0 by omega), e3', zt_bind]
        dsimp only
        rw [r2, zt_pw (by omega) (by omega), pm_lt_eq]
        have r3 : pm_w I3 (k + 3) n (nI (pm_nv c L (pm_nxt c L (pm_nxt c L i)))) k 7 = nI n := by rw [zt_wc (by omega), g3 k (by omega)]; exact r2
        rw [r3, zt_pw (by omega) (by omega), pm_lt_eq, pm_lt_eq, zt_wc (show k ≠ k + 4 by omega), r3, nI_1]
        refine ⟨fun q p z => (by cases z), fun i' n' t' D' z => ?_⟩
        cases z
        refine ⟨_, rfl, CF_w (CF_w (CF_w f3 (by omega)) (by omega)) (by omega), ⟨hk, by omega, ht5⟩, ⟨zt_ws, ?_, ?_, ?_⟩, fun p hp => ?_, fun b hb => ?_⟩
        · rw [zt_w2 (by omega), zt_wc (by omega), zt_wc (by omega), g3 k (by omega), zt_wc (by omega), g2 k (by omega), zt_wc (by omega), g1 k (by omega)]; exact d8
        · rw [zt_w2 (by omega), zt_wc (by omega), zt_wc (by omega), g3 k (by omega), zt_wc (by omega), g2 k (by omega), zt_wc (by omega), g1 k (by omega)]
          rw [show pm_Ds D n (pm_nv c L i) (pm_nv c L (pm_nxt c L i)) (pm_nv c L (pm_nxt c L (pm_nxt c L i))) 9 0 = D 9 0 by unfold pm_Ds; rw [if_neg (by omega), if_neg (by omega), if_neg (by omega), if_neg (by omega)]]
          exact d9
        · rw [zt_w2 (by omega), zt_wc (by omega), zt_wc (by omega), g3 k (by omega), zt_wc (by omega), g2 k (by omega), zt_wc (by omega), g1 k (by omega)]
          rw [show pm_Ds D n (pm_nv c L i) (pm_nv c L (pm_nxt c L i)) (pm_nv c L (pm_nxt c L (pm_nxt c L i))) 8 0 = D 8 0 by unfold pm_Ds; rw [if_neg (by omega), if_neg (by omega), if_neg (by omega), if_neg (by omega)]]
          exact d10
        · have q1 : ∀ x y : Int32, pm_w (pm_w (pm_w I3 (k + 3) n x) (k + 4) n 0) k 7 y (k + 1) = pm_w I1 (k + 1) n (nI (pm_nv c L i)) (k + 1) := fun x y => by rw [zt_wc (by omega), zt_wc (by omega), zt_wc (by omega), g3 (k + 1) (by omega), zt_wc (by omega), g2 (k + 1) (by omega)]
          have q2 : ∀ x y : Int32, pm_w (pm_w (pm_w I3 (k + 3) n x) (k + 4) n 0) k 7 y (k + 2) = pm_w I2 (k + 2) n (nI (pm_nv c L (pm_nxt c L i))) (k + 2) := fun x y => by rw [zt_wc (by omega), zt_wc (by omega), zt_wc (by omega), g3 (k + 2) (by omega)]
          have q3 : ∀ x y : Int32, pm_w (pm_w (pm_w I3 (k + 3) n x) (k + 4) n 0) k 7 y (k + 3) = pm_w I3 (k + 3) n x (k + 3) := fun x y => by rw [zt_wc (by omega), zt_wc (by omega)]
          have q4 : ∀ x y : Int32, pm_w (pm_w (pm_w I3 (k + 3) n x) (k + 4) n 0) k 7 y (k + 4) = pm_w (pm_w I3 (k + 3) n x) (k + 4) n 0 (k + 4) := fun x y => by rw [zt_wc (by omega)]
          rw [q1, q2, q3, q4]
          unfold pm_Ds
          by_cases pn : p = n
          · subst pn
            rw [zt_ws, zt_ws, zt_ws, zt_ws, if_pos ⟨rfl, rfl⟩, if_neg (by omega), if_pos ⟨rfl, rfl⟩, if_neg (by omega), if_neg (by omega), if_pos ⟨rfl, rfl⟩, if_neg (by omega), if_neg (by omega), if_neg (by omega), if_pos ⟨rfl, rfl⟩]
            exact ⟨rfl, rfl, rfl, rfl⟩
          · rw [zt_w2 (by omega), zt_w2 (by omega), zt_w2 (by omega), zt_w2 (by omega), zt_wc (show k + 4 ≠ k + 3 by omega), g3 (k + 3) (by omega), zt_wc (show k + 3 ≠ k + 2 by omega), g2 (k + 3) (by omega), zt_wc (show k + 3 ≠ k + 1 by omega), g1 (k + 3) (by omega), g3 (k + 4) (by omega), zt_wc (show k + 4 ≠ k + 2 by omega), g2 (k + 4) (by omega), zt_wc (show k + 4 ≠ k + 1 by omega), g1 (k + 4) (by omega), g2 (k + 2) (by omega), zt_wc (show k + 2 ≠ k + 1 by omega), g1 (k + 2) (by omega), g1 (k + 1) (by omega)]
            simp only [pn, false_and, if_false]
            exact dn p (by omega)
        · have qb : ∀ j : Nat, 5 ≤ j → j ≤ 7 → ∀ x y : Int32, pm_w (pm_w (pm_w I3 (k + 3) n x) (k + 4) n 0) k 7 y (k + j) = I (k + j) := fun j h1 h2 x y => by rw [zt_wc (by omega), zt_wc (by omega), zt_wc (by omega), g3 (k + j) (by omega), zt_wc (by omega), g2 (k + j) (by omega), zt_wc (by omega), g1 (k + j) (by omega)]
          rw [qb 5 (by omega) (by omega), qb 6 (by omega) (by omega), qb 7 (by omega) (by omega)]
          unfold pm_Ds
          simp only [show ¬ (5 : Nat) = 1 by decide, show ¬ (5 : Nat) = 2 by decide, show ¬ (5 : Nat) = 3 by decide, show ¬ (5 : Nat) = 4 by decide, show ¬ (6 : Nat) = 1 by decide, show ¬ (6 : Nat) = 2 by decide, show ¬ (6 : Nat) = 3 by decide, show ¬ (6 : Nat) = 4 by decide, show ¬ (7 : Nat) = 1 by decide, show ¬ (7 : Nat) = 2 by decide, show ¬ (7 : Nat) = 3 by decide, show ¬ (7 : Nat) = 4 by decide, and_false, if_false]
          exact dt b hb
      · obtain ⟨I3, e3, x3⟩ := a6 z3
        have e3' : f134 0 4 (pm_w I2 (k + 2) n (nI (pm_nv c L (pm_nxt c L i)))) J = some (0, I3, J) := e3
        rw [if_pos z3, e3', zt_bind]
        dsimp only
        rw [pm_lt_eq, pm_lt_eq, pm_lt_eq]
        refine ⟨fun q p z => ?_, fun i' n' t' D' z => (by cases z)⟩
        cases z
        exact ⟨_, rfl, CX_w (CX_pw (CX_pw x3 (by omega)) (by omega)) (by omega)⟩
    · obtain ⟨I2, e2, x2⟩ := a4 z2
      have e2' : f134 0 5 (pm_w I1 (k + 1) n (nI (pm_nv c L i))) J = some (0, I2, J) := e2
      rw [if_pos z2, e2', zt_bind]
      dsimp only
      rw [r1, pm_lt_eq]
      obtain ⟨I3, e3, x3⟩ := e134x (J := J) (lo := 0) (hi := 4) (CX_pw (a := k + 2) (len := 8) (i := nI n) (x := 0) x2 (by omega))
      rw [e3, zt_bind]
      dsimp only
      rw [pm_lt_eq, pm_lt_eq, pm_lt_eq]
      refine ⟨fun q p z => ?_, fun i' n' t' D' z => (by cases z)⟩
      cases z
      exact ⟨_, rfl, CX_w (CX_pw (CX_pw x3 (by omega)) (by omega)) (by omega)⟩
  · obtain ⟨I1, e1, x1⟩ := a2 z1
    have e1' : f134 1 9 I J = some (0, I1, J) := e1
    rw [if_pos z1, e1', zt_bind]
    dsimp only
    rw [pm_lt_eq]
    obtain ⟨I2, e2, x2⟩ := e134x (J := J) (lo := 0) (hi := 5) (CX_pw (a := k + 1) (len := 8) (i := I k 7) (x := 0) x1 (by omega))
    rw [e2, zt_bind]
    dsimp only
    rw [pm_lt_eq]
    obtain ⟨I3, e3, x3⟩ := e134x (J := J) (lo := 0) (hi := 4) (CX_pw (a := k + 2) (len := 8) (i := pm_pw I1 (k + 1) 8 (I k 7) 0 k 7) (x := 0) x2 (by omega))
    rw [e3, zt_bind]
    dsimp only
    rw [pm_lt_eq, pm_lt_eq, pm_lt_eq]
    refine ⟨fun q p z => ?_, fun i' n' t' D' z => (by cases z)⟩
    cases z
    exact ⟨_, rfl, CX_w (CX_pw (CX_pw x3 (by omega)) (by omega)) (by omega)⟩
theorem e90 {c : Nat → Nat} {L i n t : Nat} {D : Nat → Nat → Nat} (h : pm_CF c L i I) (hi : i ≤ L) (hD : pm_CD k n t D I) (hb : t < 5) : (∀ q p, pm_rb c L 1 i n t D = .inl (q, p) → ∃ I', f90 k I J = some ((), I', J) ∧ pm_CX q p I') ∧ (∀ i' n' t' D', pm_rb c L 1 i n t D = .inr (i', n', t', D') → ∃ I', f90 k I J = some ((), I', J) ∧ pm_CF c L i' I' ∧ pm_CD k n' t' D' I') := by
  obtain ⟨⟨hk, hn8, ht5⟩, ⟨d7, d8, d9, d10⟩, dn, dt⟩ := id hD
  have b1 := nx_b (c := c) hi
  have b2 := nx_b (c := c) b1
  unfold f90 pm_rb
  obtain ⟨a1, a2⟩ := i134 (J := J) (lo := 0) (hi := 5) h hi (by omega) (by omega)
  rw [if_neg (show ¬ (1 : Nat) = 0 by decide), if_pos rfl]
  by_cases z1 : pm_nk c L 0 5 i = 0
  · obtain ⟨I1, e1, f1⟩ := a1 z1
    have e1' : f134 0 5 I J = some (nI (pm_nv c L i), I1, J) := e1
    have g1 := c134 e1'
    rw [if_neg (show ¬ pm_nk c L 0 5 i ≠ 0 by omega), e1', zt_bind]
    dsimp only
    rw [d8, zt_pw (by omega) (by omega), pm_lt_eq]
    have w1 : pm_CF c L (pm_nxt c L i) (pm_w I1 (k + 5) t (nI (pm_nv c L i))) := CF_w f1 (by omega)
    obtain ⟨a3, a4⟩ := i134 (J := J) (lo := 1) (hi := 40) w1 b1 (by omega) (by omega)
    have r1 : pm_w I1 (k + 5) t (nI (pm_nv c L i)) k 8 = nI t := by rw [zt_wc (by omega), g1 k (by omega)]; exact d8
    by_cases z2 : pm_nk c L 1 40 (pm_nxt c L i) = 0
    · obtain ⟨I2, e2, f2⟩ := a3 z2
      have e2' : f134 1 40 (pm_w I1 (k + 5) t (nI (pm_nv c L i))) J = some (nI (pm_nv c L (pm_nxt c L i)), I2, J) := e2
      have g2 := c134 e2'
      rw [if_neg (show ¬ pm_nk c L 1 40 (pm_nxt c L i) ≠ 0 by omega), e2', zt_bind]
      dsimp only
      rw [r1, zt_pw (by omega) (by omega), pm_lt_eq]
      have w2 : pm_CF c L (pm_nxt c L (pm_nxt c L i)) (pm_w I2 (k + 6) t (nI (pm_nv c L (pm_nxt c L i)))) := CF_w f2 (by omega)
      obtain ⟨a5, a6⟩ := i134 (J := J) (lo := 1) (hi := 4) w2 b2 (by omega) (by omega)
      have r2 : pm_w I2 (k + 6) t (nI (pm_nv c L (pm_nxt c L i))) k 8 = nI t := by rw [zt_wc (by omega), g2 k (by omega)]; exact r1
      by_cases z3 : pm_nk c L 1 4 (pm_nxt c L (pm_nxt c L i)) = 0
      · obtain ⟨I3, e3, f3⟩ := a5 z3
        have e3' : f134 1 4 (pm_w I2 (k + 6) t (nI (pm_nv c L (pm_nxt c L i)))) J = some (nI (pm_nv c L (pm_nxt c L (pm_nxt c L i))), I3, J) := e3
        have g3 := c134 e3'
        rw [if_neg (show ¬ pm_nk c L 1 4 (pm_nxt c L (pm_nxt c L i)) ≠ 0 by omega), e3', zt_bind]
        dsimp only
        rw [r2, zt_pw (by omega) (by omega), pm_lt_eq]
        have r3 : pm_w I3 (k + 7) t (nI (pm_nv c L (pm_nxt c L (pm_nxt c L i)))) k 8 = nI t := by rw [zt_wc (by omega), g3 k (by omega)]; exact r2
        rw [pm_lt_eq, r3, nI_1]
        refine ⟨fun q p z => (by cases z), fun i' n' t' D' z => ?_⟩
        cases z
        have fd : ∀ f : Nat, pm_w I3 (k + 7) t (nI (pm_nv c L (pm_nxt c L (pm_nxt c L i)))) k f = I k f := fun f => by rw [zt_wc (by omega), g3 k (by omega), zt_wc (by omega), g2 k (by omega), zt_wc (by omega), g1 k (by omega)]
        refine ⟨_, rfl, CF_w (CF_w f3 (by omega)) (by omega), ⟨hk, hn8, by omega⟩, ⟨?_, zt_ws, ?_, ?_⟩, fun p hp => ?_, fun b hb => ?_⟩
        · rw [zt_w2 (by omega), fd]; exact d7
        · rw [zt_w2 (by omega), fd]
          rw [show pm_Dt D t (pm_nv c L i) (pm_nv c L (pm_nxt c L i)) (pm_nv c L (pm_nxt c L (pm_nxt c L i))) 9 0 = D 9 0 by unfold pm_Dt; rw [if_neg (by omega), if_neg (by omega), if_neg (by omega)]]
          exact d9
        · rw [zt_w2 (by omega), fd]
          rw [show pm_Dt D t (pm_nv c L i) (pm_nv c L (pm_nxt c L i)) (pm_nv c L (pm_nxt c L (pm_nxt c L i))) 8 0 = D 8 0 by unfold pm_Dt; rw [if_neg (by omega), if_neg (by omega), if_neg (by omega)]]
          exact d10
        · have qb : ∀ j : Nat, 1 ≤ j → j ≤ 4 → ∀ x y : Int32, pm_w (pm_w I3 (k + 7) t x) k 8 y (k + j) = I (k + j) := fun j h1 h2 x y => by rw [zt_wc (by omega), zt_wc (by omega), g3 (k + j) (by omega), zt_wc (by omega), g2 (k + j) (by omega), zt_wc (by omega), g1 (k + j) (by omega)]
          rw [qb 1 (by omega) (by omega), qb 2 (by omega) (by omega), qb 3 (by omega) (by omega), qb 4 (by omega) (by omega)]
          unfold pm_Dt
          simp only [show ¬ (1 : Nat) = 5 by decide, show ¬ (1 : Nat) = 6 by decide, show ¬ (1 : Nat) = 7 by decide, show ¬ (2 : Nat) = 5 by decide, show ¬ (2 : Nat) = 6 by decide, show ¬ (2 : Nat) = 7 by decide, show ¬ (3 : Nat) = 5 by decide, show ¬ (3 : Nat) = 6 by decide, show ¬ (3 : Nat) = 7 by decide, show ¬ (4 : Nat) = 5 by decide, show ¬ (4 : Nat) = 6 by decide, show ¬ (4 : Nat) = 7 by decide, and_false, if_false]
          exact dn p hp
        · have q1 : ∀ x y : Int32, pm_w (pm_w I3 (k + 7) t x) k 8 y (k + 5) = pm_w I1 (k + 5) t (nI (pm_nv c L i)) (k + 5) := fun x y => by rw [zt_wc (by omega), zt_wc (by omega), g3 (k + 5) (by omega), zt_wc (by omega), g2 (k + 5) (by omega)]
          have q2 : ∀ x y : Int32, pm_w (pm_w I3 (k + 7) t x) k 8 y (k + 6) = pm_w I2 (k + 6) t (nI (pm_nv c L (pm_nxt c L i))) (k + 6) := fun x y => by rw [zt_wc (by omega), zt_wc (by omega), g3 (k + 6) (by omega)]
          have q3 : ∀ x y : Int32, pm_w (pm_w I3 (k + 7) t x) k 8 y (k + 7) = pm_w I3 (k + 7) t x (k + 7) := fun x y => by rw [zt_wc (by omega)]
          rw [q1, q2, q3]
          unfold pm_Dt
          by_cases pn : b = t
          · subst pn
            rw [zt_ws, zt_ws, zt_ws, if_pos ⟨rfl, rfl⟩, if_neg (by omega), if_pos ⟨rfl, rfl⟩, if_neg (by omega), if_neg (by omega), if_pos ⟨rfl, rfl⟩]
            exact ⟨rfl, rfl, rfl⟩
          · rw [zt_w2 (by omega), zt_w2 (by omega), zt_w2 (by omega), g3 (k + 7) (by omega), zt_wc (show k + 7 ≠ k + 6 by omega), g2 (k + 7) (by omega), zt_wc (show k + 7 ≠ k + 5 by omega), g1 (k + 7) (by omega), g2 (k + 6) (by omega), zt_wc (show k + 6 ≠ k + 5 by omega), g1 (k + 6) (by omega), g1 (k + 5) (by omega)]
            simp only [pn, false_and, if_false]
            exact dt b (by omega)
      · obtain ⟨I3, e3, x3⟩ := a6 z3
        have e3' : f134 1 4 (pm_w I2 (k + 6) t (nI (pm_nv c L (pm_nxt c L i)))) J = some (0, I3, J) := e3
        rw [if_pos z3, e3', zt_bind]
        dsimp only
        rw [pm_lt_eq, pm_lt_eq]
        refine ⟨fun q p z => ?_, fun i' n' t' D' z => (by cases z)⟩
        cases z
        exact ⟨_, rfl, CX_w (CX_pw x3 (by omega)) (by omega)⟩
    · obtain ⟨I2, e2, x2⟩ := a4 z2
      have e2' : f134 1 40 (pm_w I1 (k + 5) t (nI (pm_nv c L i))) J = some (0, I2, J) := e2
      rw [if_pos z2, e2', zt_bind]
      dsimp only
      rw [r1, pm_lt_eq]
      obtain ⟨I3, e3, x3⟩ := e134x (J := J) (lo := 1) (hi := 4) (CX_pw (a := k + 6) (len := 5) (i := nI t) (x := 0) x2 (by omega))
      rw [e3, zt_bind]
      dsimp only
      rw [pm_lt_eq, pm_lt_eq]
      refine ⟨fun q p z => ?_, fun i' n' t' D' z => (by cases z)⟩
      cases z
      exact ⟨_, rfl, CX_w (CX_pw x3 (by omega)) (by omega)⟩
  · obtain ⟨I1, e1, x1⟩ := a2 z1
    have e1' : f134 0 5 I J = some (0, I1, J) := e1
    rw [if_pos z1, e1', zt_bind]
    dsimp only
    rw [pm_lt_eq]
    obtain ⟨I2, e2, x2⟩ := e134x (J := J) (lo := 1) (hi := 40) (CX_pw (a := k + 5) (len := 5) (i := I k 8) (x := 0) x1 (by omega))
    rw [e2, zt_bind]
    dsimp only
    rw [pm_lt_eq]
    obtain ⟨I3, e3, x3⟩ := e134x (J := J) (lo := 1) (hi := 4) (CX_pw (a := k + 6) (len := 5) (i := pm_pw I1 (k + 5) 5 (I k 8) 0 k 8) (x := 0) x2 (by omega))
    rw [e3, zt_bind]
    dsimp only
    rw [pm_lt_eq, pm_lt_eq]
    refine ⟨fun q p z => ?_, fun i' n' t' D' z => (by cases z)⟩
    cases z
    exact ⟨_, rfl, CX_w (CX_pw x3 (by omega)) (by omega)⟩
end Rb
