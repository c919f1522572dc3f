/-! THE REGISTER'S TEXT: a clause, the reference -/
def pm_MD (n t : Nat) (D : Nat → Nat → Nat) (I : Nat → Nat → Int32) : Prop := (n ≤ 8 ∧ t ≤ 5) ∧ (I 127 14 = nI n ∧ I 127 15 = nI t ∧ I 127 16 = nI (D 9 0) ∧ I 127 17 = nI (D 8 0)) ∧ (∀ p, p < n → I 130 (4 * p) = nI (D 1 p) ∧ I 130 (4 * p + 1) = nI (D 2 p) ∧ I 130 (4 * p + 2) = nI (D 3 p) ∧ I 130 (4 * p + 3) = nI (D 4 p)) ∧ ∀ b, b < t → I 131 (3 * b) = nI (D 5 b) ∧ I 131 (3 * b + 1) = nI (D 6 b) ∧ I 131 (3 * b + 2) = nI (D 7 b)
theorem rI_w {c : Nat → Nat} {L i : Nat} : (pm_rI c L i = 0 → pm_wb c L i 2 = true) ∧ (pm_rI c L i = 1 → pm_wb c L i 2 = false ∧ pm_wb c L i 4 = true) ∧ (pm_rI c L i = 2 → pm_wb c L i 2 = false ∧ pm_wb c L i 4 = false ∧ pm_wb c L i 6 = true) ∧ (pm_rI c L i = 3 → pm_wb c L i 2 = false ∧ pm_wb c L i 4 = false ∧ pm_wb c L i 6 = false ∧ pm_wb c L i 8 = true) ∧ (pm_rI c L i = 4 → pm_wb c L i 2 = false ∧ pm_wb c L i 4 = false ∧ pm_wb c L i 6 = false ∧ pm_wb c L i 8 = false ∧ pm_wb c L i 10 = true) ∧ (pm_rI c L i = 5 → pm_wb c L i 2 = false ∧ pm_wb c L i 4 = false ∧ pm_wb c L i 6 = false ∧ pm_wb c L i 8 = false ∧ pm_wb c L i 10 = false) := by
  unfold pm_rI
  simp only [pm_fst]
  cases pm_wb c L i 2 <;> cases pm_wb c L i 4 <;> cases pm_wb c L i 6 <;> cases pm_wb c L i 8 <;> cases pm_wb c L i 10 <;> simp
theorem wb_n {c : Nat → Nat} {L i s s' : Nat} (h : pm_wb c L i s = true) (hd : pm_txt (s + 2) ≠ pm_txt (s' + 2)) : pm_wb c L i s' = false := by
  cases e : pm_wb c L i s' with
  | false => rfl
  | true => exact absurd (wq_n (wb_q.mp h) (wb_q.mp e)) hd
section Rd
variable {I : Nat → Nat → Int32} {J : Nat → Nat → Int64}
theorem i4m (n j : Nat) : (4 : Int32) * nI n + nI j = nI (4 * n + j) := by rw [zt_lit 4, pk_mul, nI_add]
theorem i3m (n j : Nat) : (3 : Int32) * nI n + nI j = nI (3 * n + j) := by rw [zt_lit 3, pk_mul, nI_add]
theorem MD_4 {n t : Nat} {D : Nat → Nat → Nat} {I' : Nat → Nat → Int32} {A : List Nat} {F : List (Nat × Nat)} (h : pm_MD n t D I) (g : pm_ag A F I I') (ok : (A.all (fun a => !decide (a = 127) && !decide (a = 130) && !decide (a = 131)) && F.all (fun q => !([(127, 14), (127, 15), (127, 16), (127, 17)] : List (Nat × Nat)).contains q && !decide (q.1 = 130) && !decide (q.1 = 131))) = true) : pm_MD n t D I' := by
  rw [Bool.and_eq_true, List.all_eq_true, List.all_eq_true] at ok
  obtain ⟨o1, o2⟩ := ok
  have f : ∀ x : Nat, x = 14 ∨ x = 15 ∨ x = 16 ∨ x = 17 → I' 127 x = I 127 x := fun x hx => g 127 x (fun m => by have := o1 _ m; simp at this) (fun m => by
    have := o2 _ m
    rcases hx with rfl | rfl | rfl | rfl <;> simp at this)
  have e0 : I' 130 = I 130 := ag_cell g (fun m => by have := o1 _ m; simp at this) (fun f m => by have := o2 _ m; simp at this)
  have e1 : I' 131 = I 131 := ag_cell g (fun m => by have := o1 _ m; simp at this) (fun f m => by have := o2 _ m; simp at this)
  unfold pm_MD
  rw [f 14 (by omega), f 15 (by omega), f 16 (by omega), f 17 (by omega), e0, e1]
  exact h
theorem i235 {c : Nat → Nat} {L a st lo hi : Nat} (h : pm_MF c L a I) (hst : st = pm_sk c (L - a) a) (hl : lo ≤ 9999) (hh : hi ≤ 9999) : (pm_nk c L lo hi st = 0 → ∃ I', f235 (nI lo) (nI hi) I J = some (nI (pm_nv c L st), I', J) ∧ pm_MF c L (pm_stp c L st) I') ∧ (pm_nk c L lo hi st ≠ 0 → ∃ I', f235 (nI lo) (nI hi) I J = some (0, I', J) ∧ pm_MX (pm_nk c L lo hi st) st I') := e235 h hst hl hh
theorem g235 {x y v : Int32} {I' : Nat → Nat → Int32} (e : f235 x y I J = some (v, I', J)) : pm_ag [] [(127, 4), (127, 5), (127, 6)] I I' := (fr_235 _ _ _ e).1
theorem MX_w {q p a f : Nat} {x : Int32} (h : pm_MX q p I) (ha : a ≠ 127 ∨ 6 < f) : pm_MX q p (pm_w I a f x) := by
  unfold pm_MX
  rcases Nat.lt_or_ge 6 f with hf | hf
  · by_cases q : a = 127
    · subst q
      rw [zt_w2 (by omega), zt_w2 (by omega)]
      exact h
    · rw [zt_wc (Ne.symm q)]
      exact h
  · rw [zt_wc (by omega)]
    exact h
theorem m237_0 {c : Nat → Nat} {L a st i n t : Nat} {D : Nat → Nat → Nat} (h : pm_MF c L a I) (hst : st = pm_sk c (L - a) a) (hi : i ≤ L) (hw : pm_rI c L i = 0) (hD : pm_MD n t D I) (hb : n < 8) : (∀ q p, pm_rb c L 0 st n t D = .inl (q, p) → ∃ I', f237 (nI (pm_wv c L i)) I J = some ((), I', J) ∧ pm_MX q p I') ∧ (∀ i' n' t' D', pm_rb c L 0 st n t D = .inr (i', n', t', D') → ∃ I' a', f237 (nI (pm_wv c L i)) I J = some ((), I', J) ∧ pm_MF c L a' I' ∧ i' = pm_sk c (L - a') a' ∧ pm_MD n' t' D' I') := by
  obtain ⟨⟨hn8, ht5⟩, ⟨d14, d15, d16, d17⟩, dn, dt⟩ := id hD
  have hL := h.1.2.1
  have sb := sk_b c (L - a) a
  have ha := h.2.1
  have b0 : st ≤ L := by omega
  have w2 := rI_w.1 hw
  unfold f237 pm_rb
  rw [if_pos rfl, f231_t 1 (by decide) (by decide) (by decide) 2 rfl, zt_bind]
  dsimp only
  rw [if_pos ((wv_t hi 1 (by decide) (by decide) (by decide) 2 rfl).mpr w2), d14]
  have j0 : (4 : Int32) * nI n + 0 = nI (4 * n) := i4m n 0
  have j1 : (4 : Int32) * nI n + 1 = nI (4 * n + 1) := i4m n 1
  have j2 : (4 : Int32) * nI n + 2 = nI (4 * n + 2) := i4m n 2
  have j3 : (4 : Int32) * nI n + 3 = nI (4 * n + 3) := i4m n 3
  rw [j0, j1, j2, j3, zt_in (by omega) (by omega), zt_in (by omega) (by omega), zt_in (by omega) (by omega), zt_in (by omega) (by omega), nI_clamp (by omega), nI_clamp (by omega), nI_clamp (by omega), nI_clamp (by omega)]
  simp only [zt_gd, pm_lt_eq]
  obtain ⟨a1, a2⟩ := i235 (J := J) (lo := 1) (hi := 9) h hst (by omega) (by omega)
  by_cases z1 : pm_nk c L 1 9 st = 0
  · obtain ⟨I1, e1, f1⟩ := a1 z1
    have e1' : f235 1 9 I J = some (nI (pm_nv c L st), I1, J) := e1
    have g1 := g235 e1'
    rw [if_neg (show ¬ pm_nk c L 1 9 st ≠ 0 by omega), e1', zt_bind]
    dsimp only
    obtain ⟨a3, a4⟩ := i235 (J := J) (st := pm_nxt c L st) (lo := 0) (hi := 5) (MF_w (b := 130) (f := 4 * n) (x := nI (pm_nv c L st)) f1 (by decide) (by decide)) rfl (by omega) (by omega)
    by_cases z2 : pm_nk c L 0 5 (pm_nxt c L st) = 0
    · obtain ⟨I2, e2, f2⟩ := a3 z2
      have e2' : f235 0 5 (pm_w I1 130 (4 * n) (nI (pm_nv c L st))) J = some (nI (pm_nv c L (pm_nxt c L st)), I2, J) := e2
      have g2 := g235 e2'
      rw [if_neg (show ¬ pm_nk c L 0 5 (pm_nxt c L st) ≠ 0 by omega), e2', zt_bind]
      dsimp only
      obtain ⟨a5, a6⟩ := i235 (J := J) (st := pm_nxt c L (pm_nxt c L st)) (lo := 0) (hi := 4) (MF_w (b := 130) (f := 4 * n + 1) (x := nI (pm_nv c L (pm_nxt c L st))) f2 (by decide) (by decide)) rfl (by omega) (by omega)
      by_cases z3 : pm_nk c L 0 4 (pm_nxt c L (pm_nxt c L st)) = 0
      · obtain ⟨I3, e3, f3⟩ := a5 z3
        have e3' : f235 0 4 (pm_w I2 130 (4 * n + 1) (nI (pm_nv c L (pm_nxt c L st)))) J = some (nI (pm_nv c L (pm_nxt c L (pm_nxt c L st))), I3, J) := e3
        have g3 := g235 e3'
        rw [if_neg (show ¬ pm_nk c L 0 4 (pm_nxt c L (pm_nxt c L st)) ≠ 0 by omega), e3', zt_bind]
        dsimp only
        refine ⟨fun q p z => (by cases z), fun i' n' t' D' z => ?_⟩
        cases z
        have c3 : I3 130 = pm_w I2 130 (4 * n + 1) (nI (pm_nv c L (pm_nxt c L st))) 130 := ag_cell g3 (by decide) (by intro f; simp)
        have c2 : I2 130 = pm_w I1 130 (4 * n) (nI (pm_nv c L st)) 130 := ag_cell g2 (by decide) (by intro f; simp)
        have c1 : I1 130 = I 130 := ag_cell g1 (by decide) (by intro f; simp)
        have oc : 131 - 130 + 130 ≠ 130 := by decide
        have o3 : I3 (131 - 130 + 130) = I (131 - 130 + 130) := by rw [ag_cell g3 (by decide) (by intro f; simp), zt_wc oc, ag_cell g2 (by decide) (by intro f; simp), zt_wc oc, ag_cell g1 (by decide) (by intro f; simp)]
        have fd : ∀ f : Nat, 13 < f → I3 127 f = I 127 f := fun f hf => by rw [g3 127 f (by decide) (by simp; omega), zt_wc (by decide), g2 127 f (by decide) (by simp; omega), zt_wc (by decide), g1 127 f (by decide) (by simp; omega)]
        have r14 : pm_w (pm_w I3 130 (4 * n + 2) (nI (pm_nv c L (pm_nxt c L (pm_nxt c L st))))) 130 (4 * n + 3) 0 127 14 = nI n := by rw [zt_wc (by decide), zt_wc (by decide), fd 14 (by omega)]; exact d14
        rw [r14, nI_1]
        refine ⟨_, pm_stp c L (pm_nxt c L (pm_nxt c L st)), rfl, MF_g (MF_w (MF_w f3 (by decide) (by decide)) (by decide) (by decide)) (by omega), rfl, ⟨by omega, ht5⟩, ⟨zt_ws, ?_, ?_, ?_⟩, fun p hp => ?_, fun b hb => ?_⟩
        · rw [zt_w2 (by omega), zt_wc (by decide), zt_wc (by decide), fd 15 (by omega)]; exact d15
        · rw [zt_w2 (by omega), zt_wc (by decide), zt_wc (by decide), fd 16 (by omega), show pm_Ds D n (pm_nv c L st) (pm_nv c L (pm_nxt c L st)) (pm_nv c L (pm_nxt c L (pm_nxt c L st))) 9 0 = D 9 0 by unfold pm_Ds; rw [if_neg (by omega), if_neg (by omega), if_neg (by omega), if_neg (by omega)]]
          exact d16
        · rw [zt_w2 (by omega), zt_wc (by decide), zt_wc (by decide), fd 17 (by omega), show pm_Ds D n (pm_nv c L st) (pm_nv c L (pm_nxt c L st)) (pm_nv c L (pm_nxt c L (pm_nxt c L st))) 8 0 = D 8 0 by unfold pm_Ds; rw [if_neg (by omega), if_neg (by omega), if_neg (by omega), if_neg (by omega)]]
          exact d17
        · rw [zt_wc (show 130 ≠ 127 by decide)]
          unfold pm_Ds
          by_cases pn : p = n
          · subst pn
            have v0 : ∀ x y : Int32, pm_w (pm_w I3 130 (4 * p + 2) x) 130 (4 * p + 3) y 130 (4 * p) = nI (pm_nv c L st) := fun x y => by rw [zt_w2 (by omega), zt_w2 (by omega), c3, zt_w2 (by omega), c2, zt_ws]
            have v1 : ∀ x y : Int32, pm_w (pm_w I3 130 (4 * p + 2) x) 130 (4 * p + 3) y 130 (4 * p + 1) = nI (pm_nv c L (pm_nxt c L st)) := fun x y => by rw [zt_w2 (by omega), zt_w2 (by omega), c3, zt_ws]
            have v2 : ∀ x y : Int32, pm_w (pm_w I3 130 (4 * p + 2) x) 130 (4 * p + 3) y 130 (4 * p + 2) = x := fun x y => by rw [zt_w2 (by omega), zt_ws]
            rw [v0, v1, v2, zt_ws, if_pos ⟨rfl, rfl⟩, if_neg (by omega), if_pos ⟨rfl, rfl⟩, if_neg (by omega), if_neg (by omega), if_pos ⟨rfl, rfl⟩, if_neg (by omega), if_neg (by omega), if_neg (by omega), if_pos ⟨rfl, rfl⟩]
            exact ⟨rfl, rfl, rfl, rfl⟩
          · have pw : ∀ j : Nat, j < 4 → ∀ x y : Int32, pm_w (pm_w I3 130 (4 * n + 2) x) 130 (4 * n + 3) y 130 (4 * p + j) = I 130 (4 * p + j) := fun j hj x y => by rw [zt_w2 (by omega), zt_w2 (by omega), c3, zt_w2 (by omega), c2, zt_w2 (by omega), c1]
            have pw0 : ∀ x y : Int32, pm_w (pm_w I3 130 (4 * n + 2) x) 130 (4 * n + 3) y 130 (4 * p) = I 130 (4 * p) := pw 0 (by omega)
            rw [pw0, pw 1 (by omega), pw 2 (by omega), pw 3 (by omega)]
            simp only [pn, false_and, if_false]
            exact dn p (by omega)
        · rw [zt_wc (show 131 ≠ 127 by decide), zt_wc (show 131 ≠ 130 by decide), zt_wc (show 131 ≠ 130 by decide), show I3 131 = I 131 from o3]
          unfold pm_Ds
          simp only [show ¬ (5 : Nat) = 1 by decide, show ¬ (5 : Nat) = 2 by decide, show ¬ (5 : Nat) = 3 by decide, show ¬ (5 : Nat) = 4 by decide, show ¬ (6 : Nat) = 1 by decide, show ¬ (6 : Nat) = 2 by decide, show ¬ (6 : Nat) = 3 by decide, show ¬ (6 : Nat) = 4 by decide, show ¬ (7 : Nat) = 1 by decide, show ¬ (7 : Nat) = 2 by decide, show ¬ (7 : Nat) = 3 by decide, show ¬ (7 : Nat) = 4 by decide, and_false, if_false]
          exact dt b hb
      · obtain ⟨I3, e3, x3⟩ := a6 z3
        have e3' : f235 0 4 (pm_w I2 130 (4 * n + 1) (nI (pm_nv c L (pm_nxt c L st)))) J = some (0, I3, J) := e3
        rw [if_pos z3, e3', zt_bind]
        refine ⟨fun q p z => ?_, fun i' n' t' D' z => (by cases z)⟩
        cases z
        exact ⟨_, rfl, MX_w (MX_w (MX_w x3 (by omega)) (by omega)) (by omega)⟩
    · obtain ⟨I2, e2, x2⟩ := a4 z2
      have e2' : f235 0 5 (pm_w I1 130 (4 * n) (nI (pm_nv c L st))) J = some (0, I2, J) := e2
      rw [if_pos z2, e2', zt_bind]
      dsimp only
      rw [e235x (MX_w (a := 130) (f := 4 * n + 1) (x := 0) x2 (by omega)), zt_bind]
      refine ⟨fun q p z => ?_, fun i' n' t' D' z => (by cases z)⟩
      cases z
      exact ⟨_, rfl, MX_w (MX_w (MX_w (MX_w x2 (by omega)) (by omega)) (by omega)) (by omega)⟩
  · obtain ⟨I1, e1, x1⟩ := a2 z1
    have e1' : f235 1 9 I J = some (0, I1, J) := e1
    rw [if_pos z1, e1', zt_bind]
    dsimp only
    rw [e235x (MX_w (a := 130) (f := 4 * n) (x := 0) x1 (by omega)), zt_bind]
    dsimp only
    rw [e235x (MX_w (a := 130) (f := 4 * n + 1) (x := 0) (MX_w (a := 130) (f := 4 * n) (x := 0) x1 (by omega)) (by omega)), zt_bind]
    refine ⟨fun q p z => ?_, fun i' n' t' D' z => (by cases z)⟩
    cases z
    exact ⟨_, rfl, MX_w (MX_w (MX_w (MX_w (MX_w x1 (by omega)) (by omega)) (by omega)) (by omega)) (by omega)⟩
theorem m237_1 {c : Nat → Nat} {L a st i n t : Nat} {D : Nat → Nat → Nat} (h : pm_MF c L a I) (hst : st = pm_sk c (L - a) a) (hi : i ≤ L) (hw : pm_rI c L i = 1) (hD : pm_MD n t D I) (hb : t < 5) : (∀ q p, pm_rb c L 1 st n t D = .inl (q, p) → ∃ I', f237 (nI (pm_wv c L i)) I J = some ((), I', J) ∧ pm_MX q p I') ∧ (∀ i' n' t' D', pm_rb c L 1 st n t D = .inr (i', n', t', D') → ∃ I' a', f237 (nI (pm_wv c L i)) I J = some ((), I', J) ∧ pm_MF c L a' I' ∧ i' = pm_sk c (L - a') a' ∧ pm_MD n' t' D' I') := by
  obtain ⟨⟨hn8, ht5⟩, ⟨d14, d15, d16, d17⟩, dn, dt⟩ := id hD
  have hL := h.1.2.1
  have sb := sk_b c (L - a) a
  have ha := h.2.1
  have b0 : st ≤ L := by omega
  obtain ⟨w2, w4⟩ := rI_w.2.1 hw
  unfold f237 pm_rb
  rw [if_neg (show ¬ (1 : Nat) = 0 by decide), if_pos rfl, f231_t 1 (by decide) (by decide) (by decide) 2 rfl, zt_bind]
  dsimp only
  rw [if_neg (show ¬ nI (pm_wv c L i) = nI (pm_wN (pm_tc (2 + 2)) 0 (pm_tl (2 + 2))) from fun q => by rw [(wv_t hi 1 (by decide) (by decide) (by decide) 2 rfl).mp q] at w2; cases w2), f231_t 2 (by decide) (by decide) (by decide) 4 rfl, zt_bind]
  dsimp only
  rw [if_pos ((wv_t hi 2 (by decide) (by decide) (by decide) 4 rfl).mpr w4), d15]
  have j0 : (3 : Int32) * nI t = nI (3 * t) := by rw [zt_lit 3, pk_mul]
  have j1 : nI (3 * t) + 1 = nI (3 * t + 1) := nI_1 _
  have j2 : nI (3 * t) + 2 = nI (3 * t + 2) := nI_add _ 2
  rw [j0, j1, j2, zt_in (by omega) (by omega), zt_in (by omega) (by omega), zt_in (by omega) (by omega), nI_clamp (by omega), nI_clamp (by omega), nI_clamp (by omega)]
  simp only [zt_gd, pm_lt_eq]
  obtain ⟨a1, a2⟩ := i235 (J := J) (lo := 0) (hi := 5) h hst (by omega) (by omega)
  by_cases z1 : pm_nk c L 0 5 st = 0
  · obtain ⟨I1, e1, f1⟩ := a1 z1
    have e1' : f235 0 5 I J = some (nI (pm_nv c L st), I1, J) := e1
    have g1 := g235 e1'
    rw [if_neg (show ¬ pm_nk c L 0 5 st ≠ 0 by omega), e1', zt_bind]
    dsimp only
    obtain ⟨a3, a4⟩ := i235 (J := J) (st := pm_nxt c L st) (lo := 1) (hi := 40) (MF_w (b := 131) (f := 3 * t) (x := nI (pm_nv c L st)) f1 (by decide) (by decide)) rfl (by omega) (by omega)
    by_cases z2 : pm_nk c L 1 40 (pm_nxt c L st) = 0
    · obtain ⟨I2, e2, f2⟩ := a3 z2
      have e2' : f235 1 40 (pm_w I1 131 (3 * t) (nI (pm_nv c L st))) J = some (nI (pm_nv c L (pm_nxt c L st)), I2, J) := e2
      have g2 := g235 e2'
      rw [if_neg (show ¬ pm_nk c L 1 40 (pm_nxt c L st) ≠ 0 by omega), e2', zt_bind]
      dsimp only
      obtain ⟨a5, a6⟩ := i235 (J := J) (st := pm_nxt c L (pm_nxt c L st)) (lo := 1) (hi := 4) (MF_w (b := 131) (f := 3 * t + 1) (x := nI (pm_nv c L (pm_nxt c L st))) f2 (by decide) (by decide)) rfl (by omega) (by omega)
      by_cases z3 : pm_nk c L 1 4 (pm_nxt c L (pm_nxt c L st)) = 0
      · obtain ⟨I3, e3, f3⟩ := a5 z3
        have e3' : f235 1 4 (pm_w I2 131 (3 * t + 1) (nI (pm_nv c L (pm_nxt c L st)))) J = some (nI (pm_nv c L (pm_nxt c L (pm_nxt c L st))), I3, J) := e3
        have g3 := g235 e3'
        rw [if_neg (show ¬ pm_nk c L 1 4 (pm_nxt c L (pm_nxt c L st)) ≠ 0 by omega), e3', zt_bind]
        dsimp only
        refine ⟨fun q p z => (by cases z), fun i' n' t' D' z => ?_⟩
        cases z
        have c3 : I3 131 = pm_w I2 131 (3 * t + 1) (nI (pm_nv c L (pm_nxt c L st))) 131 := ag_cell g3 (by decide) (by intro f; simp)
        have c2 : I2 131 = pm_w I1 131 (3 * t) (nI (pm_nv c L st)) 131 := ag_cell g2 (by decide) (by intro f; simp)
        have c1 : I1 131 = I 131 := ag_cell g1 (by decide) (by intro f; simp)
        have oc : 131 - 131 + 130 ≠ 131 := by decide
        have o3 : I3 (131 - 131 + 130) = I (131 - 131 + 130) := by rw [ag_cell g3 (by decide) (by intro f; simp), zt_wc oc, ag_cell g2 (by decide) (by intro f; simp), zt_wc oc, ag_cell g1 (by decide) (by intro f; simp)]
        have fd : ∀ f : Nat, 13 < f → I3 127 f = I 127 f := fun f hf => by rw [g3 127 f (by decide) (by simp; omega), zt_wc (by decide), g2 127 f (by decide) (by simp; omega), zt_wc (by decide), g1 127 f (by decide) (by simp; omega)]
        have r15 : pm_w I3 131 (3 * t + 2) (nI (pm_nv c L (pm_nxt c L (pm_nxt c L st)))) 127 15 = nI t := by rw [zt_wc (by decide), fd 15 (by omega)]; exact d15
        rw [r15, nI_1]
        refine ⟨_, pm_stp c L (pm_nxt c L (pm_nxt c L st)), rfl, MF_g (MF_w f3 (by decide) (by decide)) (by omega), rfl, ⟨hn8, by omega⟩, ⟨?_, zt_ws, ?_, ?_⟩, fun p hp => ?_, fun b hb => ?_⟩
        · rw [zt_w2 (by omega), zt_wc (by decide), fd 14 (by omega)]; exact d14
        · rw [zt_w2 (by omega), zt_wc (by decide), fd 16 (by omega), show pm_Dt D t (pm_nv c L st) (pm_nv c L (pm_nxt c L st)) (pm_nv c L (pm_nxt c L (pm_nxt c L st))) 9 0 = D 9 0 by unfold pm_Dt; rw [if_neg (by omega), if_neg (by omega), if_neg (by omega)]]
          exact d16
        · rw [zt_w2 (by omega), zt_wc (by decide), fd 17 (by omega), show pm_Dt D t (pm_nv c L st) (pm_nv c L (pm_nxt c L st)) (pm_nv c L (pm_nxt c L (pm_nxt c L st))) 8 0 = D 8 0 by unfold pm_Dt; rw [if_neg (by omega), if_neg (by omega), if_neg (by omega)]]
          exact d17
        · rw [zt_wc (show 130 ≠ 127 by decide), zt_wc (show 130 ≠ 131 by decide), show I3 130 = I 130 from o3]
          unfold pm_Dt
          simp only [show ¬ (1 : Nat) = 5 by decide, show ¬ (1 : Nat) = 6 by decide, show ¬ (1 : Nat) = 7 by decide, show ¬ (2 : Nat) = 5 by decide, show ¬ (2 : Nat) = 6 by decide, show ¬ (2 : Nat) = 7 by decide, show ¬ (3 : Nat) = 5 by decide, show ¬ (3 : Nat) = 6 by decide, show ¬ (3 : Nat) = 7 by decide, show ¬ (4 : Nat) = 5 by decide, show ¬ (4 : Nat) = 6 by decide, show ¬ (4 : Nat) = 7 by decide, and_false, if_false]
          exact dn p hp
        · rw [zt_wc (show 131 ≠ 127 by decide)]
          unfold pm_Dt
          by_cases pn : b = t
          · subst pn
            have v0 : ∀ x : Int32, pm_w I3 131 (3 * b + 2) x 131 (3 * b) = nI (pm_nv c L st) := fun x => by rw [zt_w2 (by omega), c3, zt_w2 (by omega), c2, zt_ws]
            have v1 : ∀ x : Int32, pm_w I3 131 (3 * b + 2) x 131 (3 * b + 1) = nI (pm_nv c L (pm_nxt c L st)) := fun x => by rw [zt_w2 (by omega), c3, zt_ws]
            rw [v0, v1, zt_ws, if_pos ⟨rfl, rfl⟩, if_neg (by omega), if_pos ⟨rfl, rfl⟩, if_neg (by omega), if_neg (by omega), if_pos ⟨rfl, rfl⟩]
            exact ⟨rfl, rfl, rfl⟩
          · have pw : ∀ j : Nat, j < 3 → ∀ x : Int32, pm_w I3 131 (3 * t + 2) x 131 (3 * b + j) = I 131 (3 * b + j) := fun j hj x => by rw [zt_w2 (by omega), c3, zt_w2 (by omega), c2, zt_w2 (by omega), c1]
            have pw0 : ∀ x : Int32, pm_w I3 131 (3 * t + 2) x 131 (3 * b) = I 131 (3 * b) := pw 0 (by omega)
            rw [pw0, pw 1 (by omega), pw 2 (by omega)]
            simp only [pn, false_and, if_false]
            exact dt b (by omega)
      · obtain ⟨I3, e3, x3⟩ := a6 z3
        have e3' : f235 1 4 (pm_w I2 131 (3 * t + 1) (nI (pm_nv c L (pm_nxt c L st)))) J = some (0, I3, J) := e3
        rw [if_pos z3, e3', zt_bind]
        refine ⟨fun q p z => ?_, fun i' n' t' D' z => (by cases z)⟩
        cases z
        exact ⟨_, rfl, MX_w (MX_w x3 (by omega)) (by omega)⟩
    · obtain ⟨I2, e2, x2⟩ := a4 z2
      have e2' : f235 1 40 (pm_w I1 131 (3 * t) (nI (pm_nv c L st))) J = some (0, I2, J) := e2
      rw [if_pos z2, e2', zt_bind]
      dsimp only
      rw [e235x (MX_w (a := 131) (f := 3 * t + 1) (x := 0) x2 (by omega)), zt_bind]
      refine ⟨fun q p z => ?_, fun i' n' t' D' z => (by cases z)⟩
      cases z
      exact ⟨_, rfl, MX_w (MX_w (MX_w x2 (by omega)) (by omega)) (by omega)⟩
  · obtain ⟨I1, e1, x1⟩ := a2 z1
    have e1' : f235 0 5 I J = some (0, I1, J) := e1
    rw [if_pos z1, e1', zt_bind]
    dsimp only
    rw [e235x (MX_w (a := 131) (f := 3 * t) (x := 0) x1 (by omega)), zt_bind]
    dsimp only
    rw [e235x (MX_w (a := 131) (f := 3 * t + 1) (x := 0) (MX_w (a := 131) (f := 3 * t) (x := 0) x1 (by omega)) (by omega)), zt_bind]
    refine ⟨fun q p z => ?_, fun i' n' t' D' z => (by cases z)⟩
    cases z
    exact ⟨_, rfl, MX_w (MX_w (MX_w (MX_w x1 (by omega)) (by omega)) (by omega)) (by omega)⟩
theorem m237_3 {c : Nat → Nat} {L a st i n t : Nat} {D : Nat → Nat → Nat} (h : pm_MF c L a I) (hst : st = pm_sk c (L - a) a) (hi : i ≤ L) (hw : pm_rI c L i = 3) (hD : pm_MD n t D I) : (∀ q p, pm_rb c L 3 st n t D = .inl (q, p) → ∃ I', f237 (nI (pm_wv c L i)) I J = some ((), I', J) ∧ pm_MX q p I') ∧ (∀ i' n' t' D', pm_rb c L 3 st n t D = .inr (i', n', t', D') → ∃ I' a', f237 (nI (pm_wv c L i)) I J = some ((), I', J) ∧ pm_MF c L a' I' ∧ i' = pm_sk c (L - a') a' ∧ pm_MD n' t' D' I') := by
  obtain ⟨⟨hn8, ht5⟩, ⟨d14, d15, d16, d17⟩, dn, dt⟩ := id hD
  obtain ⟨w2, w4, w6, w8⟩ := rI_w.2.2.2.1 hw
  unfold f237 pm_rb
  rw [if_neg (show ¬ (3 : Nat) = 0 by decide), if_neg (show ¬ (3 : Nat) = 1 by decide), if_neg (show ¬ (3 : Nat) = 2 by decide), if_pos rfl, f231_t 1 (by decide) (by decide) (by decide) 2 rfl, zt_bind]
  dsimp only
  rw [if_neg (show ¬ nI (pm_wv c L i) = nI (pm_wN (pm_tc (2 + 2)) 0 (pm_tl (2 + 2))) from fun q => by rw [(wv_t hi 1 (by decide) (by decide) (by decide) 2 rfl).mp q] at w2; cases w2), f231_t 2 (by decide) (by decide) (by decide) 4 rfl, zt_bind]
  dsimp only
  rw [if_neg (show ¬ nI (pm_wv c L i) = nI (pm_wN (pm_tc (4 + 2)) 0 (pm_tl (4 + 2))) from fun q => by rw [(wv_t hi 2 (by decide) (by decide) (by decide) 4 rfl).mp q] at w4; cases w4), f231_t 4 (by decide) (by decide) (by decide) 8 rfl, zt_bind]
  dsimp only
  rw [if_pos ((wv_t hi 4 (by decide) (by decide) (by decide) 8 rfl).mpr w8)]
  obtain ⟨a1, a2⟩ := i235 (J := J) (lo := 0) (hi := 400) h hst (by omega) (by omega)
  by_cases z1 : pm_nk c L 0 400 st = 0
  · obtain ⟨I1, e1, f1⟩ := a1 z1
    have e1' : f235 0 400 I J = some (nI (pm_nv c L st), I1, J) := e1
    have g1 := g235 e1'
    rw [if_neg (show ¬ pm_nk c L 0 400 st ≠ 0 by omega), e1', zt_bind]
    dsimp only
    rw [pm_lt_eq]
    refine ⟨fun q p z => (by cases z), fun i' n' t' D' z => ?_⟩
    cases z
    have dd : ∀ a p : Nat, a ≠ 9 → pm_D1 D 9 0 (pm_nv c L st) a p = D a p := fun a p ha => by unfold pm_D1; rw [if_neg (by omega)]
    have de : pm_D1 D 9 0 (pm_nv c L st) 9 0 = pm_nv c L st := by unfold pm_D1; rw [if_pos ⟨rfl, rfl⟩]
    have fd : ∀ f : Nat, 13 < f → I1 127 f = I 127 f := fun f hf => g1 127 f (by decide) (by simp; omega)
    refine ⟨_, pm_stp c L st, rfl, MF_g f1 (by omega), rfl, ⟨hn8, ht5⟩, ⟨?_, ?_, ?_, ?_⟩, fun p hp => ?_, fun b hb => ?_⟩
    · rw [zt_w2 (by omega), fd 14 (by omega)]; exact d14
    · rw [zt_w2 (by omega), fd 15 (by omega)]; exact d15
    · rw [zt_ws, de]
    · rw [zt_w2 (by omega), fd 17 (by omega), dd 8 0 (by omega)]; exact d17
    · rw [zt_wc (show 130 ≠ 127 by decide), ag_cell g1 (by decide) (by intro f; simp), dd 1 p (by omega), dd 2 p (by omega), dd 3 p (by omega), dd 4 p (by omega)]
      exact dn p hp
    · rw [zt_wc (show 131 ≠ 127 by decide), ag_cell g1 (by decide) (by intro f; simp), dd 5 b (by omega), dd 6 b (by omega), dd 7 b (by omega)]
      exact dt b hb
  · obtain ⟨I1, e1, x1⟩ := a2 z1
    have e1' : f235 0 400 I J = some (0, I1, J) := e1
    rw [if_pos z1, e1', zt_bind]
    dsimp only
    rw [pm_lt_eq]
    refine ⟨fun q p z => ?_, fun i' n' t' D' z => (by cases z)⟩
    cases z
    exact ⟨_, rfl, MX_w x1 (by omega)⟩
theorem m237_4 {c : Nat → Nat} {L a st i n t : Nat} {D : Nat → Nat → Nat} (h : pm_MF c L a I) (hst : st = pm_sk c (L - a) a) (hi : i ≤ L) (hw : pm_rI c L i = 4) (hD : pm_MD n t D I) : (∀ q p, pm_rb c L 4 st n t D = .inl (q, p) → ∃ I', f237 (nI (pm_wv c L i)) I J = some ((), I', J) ∧ pm_MX q p I') ∧ (∀ i' n' t' D', pm_rb c L 4 st n t D = .inr (i', n', t', D') → ∃ I' a', f237 (nI (pm_wv c L i)) I J = some ((), I', J) ∧ pm_MF c L a' I' ∧ i' = pm_sk c (L - a') a' ∧ pm_MD n' t' D' I') := by
  obtain ⟨⟨hn8, ht5⟩, ⟨d14, d15, d16, d17⟩, dn, dt⟩ := id hD
  obtain ⟨w2, w4, w6, w8, w10⟩ := rI_w.2.2.2.2.1 hw
  unfold f237 pm_rb
  rw [if_neg (show ¬ (4 : Nat) = 0 by decide), if_neg (show ¬ (4 : Nat) = 1 by decide), if_neg (show ¬ (4 : Nat) = 2 by decide), if_neg (show ¬ (4 : Nat) = 3 by decide), f231_t 1 (by decide) (by decide) (by decide) 2 rfl, zt_bind]
  dsimp only
  rw [if_neg (show ¬ nI (pm_wv c L i) = nI (pm_wN (pm_tc (2 + 2)) 0 (pm_tl (2 + 2))) from fun q => by rw [(wv_t hi 1 (by decide) (by decide) (by decide) 2 rfl).mp q] at w2; cases w2), f231_t 2 (by decide) (by decide) (by decide) 4 rfl, zt_bind]
  dsimp only
  rw [if_neg (show ¬ nI (pm_wv c L i) = nI (pm_wN (pm_tc (4 + 2)) 0 (pm_tl (4 + 2))) from fun q => by rw [(wv_t hi 2 (by decide) (by decide) (by decide) 4 rfl).mp q] at w4; cases w4), f231_t 4 (by decide) (by decide) (by decide) 8 rfl, zt_bind]
  dsimp only
  rw [if_neg (show ¬ nI (pm_wv c L i) = nI (pm_wN (pm_tc (8 + 2)) 0 (pm_tl (8 + 2))) from fun q => by rw [(wv_t hi 4 (by decide) (by decide) (by decide) 8 rfl).mp q] at w8; cases w8)]
  obtain ⟨a1, a2⟩ := i235 (J := J) (lo := 0) (hi := 20) h hst (by omega) (by omega)
  by_cases z1 : pm_nk c L 0 20 st = 0
  · obtain ⟨I1, e1, f1⟩ := a1 z1
    have e1' : f235 0 20 I J = some (nI (pm_nv c L st), I1, J) := e1
    have g1 := g235 e1'
    rw [if_neg (show ¬ pm_nk c L 0 20 st ≠ 0 by omega), e1', zt_bind]
    dsimp only
    rw [pm_lt_eq]
    refine ⟨fun q p z => (by cases z), fun i' n' t' D' z => ?_⟩
    cases z
    have dd : ∀ a p : Nat, a ≠ 8 → pm_D1 D 8 0 (pm_nv c L st) a p = D a p := fun a p ha => by unfold pm_D1; rw [if_neg (by omega)]
    have de : pm_D1 D 8 0 (pm_nv c L st) 8 0 = pm_nv c L st := by unfold pm_D1; rw [if_pos ⟨rfl, rfl⟩]
    have fd : ∀ f : Nat, 13 < f → I1 127 f = I 127 f := fun f hf => g1 127 f (by decide) (by simp; omega)
    refine ⟨_, pm_stp c L st, rfl, MF_g f1 (by omega), rfl, ⟨hn8, ht5⟩, ⟨?_, ?_, ?_, ?_⟩, fun p hp => ?_, fun b hb => ?_⟩
    · rw [zt_w2 (by omega), fd 14 (by omega)]; exact d14
    · rw [zt_w2 (by omega), fd 15 (by omega)]; exact d15
    · rw [zt_w2 (by omega), fd 16 (by omega), dd 9 0 (by omega)]; exact d16
    · rw [zt_ws, de]
    · rw [zt_wc (show 130 ≠ 127 by decide), ag_cell g1 (by decide) (by intro f; simp), dd 1 p (by omega), dd 2 p (by omega), dd 3 p (by omega), dd 4 p (by omega)]
      exact dn p hp
    · rw [zt_wc (show 131 ≠ 127 by decide), ag_cell g1 (by decide) (by intro f; simp), dd 5 b (by omega), dd 6 b (by omega), dd 7 b (by omega)]
      exact dt b hb
  · obtain ⟨I1, e1, x1⟩ := a2 z1
    have e1' : f235 0 20 I J = some (0, I1, J) := e1
    rw [if_pos z1, e1', zt_bind]
    dsimp only
    rw [pm_lt_eq]
    refine ⟨fun q p z => ?_, fun i' n' t' D' z => (by cases z)⟩
    cases z
    exact ⟨_, rfl, MX_w x1 (by omega)⟩
theorem m234 {c : Nat → Nat} {L a st n t : Nat} {D : Nat → Nat → Nat} (h : pm_MF c L a I) (hst : st = pm_sk c (L - a) a) (hD : pm_MD n t D I) : (∀ q p, pm_rb c L 2 st n t D = .inl (q, p) → ∃ I', f234 I J = some ((), I', J) ∧ pm_MX q p I') ∧ (∀ i' n' t' D', pm_rb c L 2 st n t D = .inr (i', n', t', D') → ∃ I' a', f234 I J = some ((), I', J) ∧ pm_MF c L a' I' ∧ i' = pm_sk c (L - a') a' ∧ pm_MD n' t' D' I') := by
  obtain ⟨⟨hn8, ht5⟩, ⟨d14, d15, d16, d17⟩, dn, dt⟩ := id hD
  unfold f234 pm_rb
  rw [if_neg (show ¬ (2 : Nat) = 0 by decide), if_neg (show ¬ (2 : Nat) = 1 by decide), if_pos rfl, d14]
  obtain ⟨a1, a2⟩ := e235m (J := J) (n := n) h hst hn8
  by_cases z1 : pm_nkm c L n st = 0
  · obtain ⟨I1, e1, f1⟩ := a1 z1
    have e1' : f235 0 (nI n - 1) I J = some (nI (pm_nv c L st), I1, J) := e1
    have g1 := g235 e1'
    have vb : pm_nv c L st < n := by
      unfold pm_nkm at z1
      by_cases n0 : n = 0
      · rw [if_pos n0] at z1
        exact absurd z1 (nk_10 c L st)
      · rw [if_neg n0] at z1
        have := (nk_0 z1).2.2
        omega
    rw [if_neg (show ¬ pm_nkm c L n st ≠ 0 by omega), e1', zt_bind]
    dsimp only
    obtain ⟨a3, a4⟩ := i235 (J := J) (st := pm_nxt c L st) (lo := 0) (hi := 999) f1 rfl (by omega) (by omega)
    by_cases z2 : pm_nk c L 0 999 (pm_nxt c L st) = 0
    · obtain ⟨I2, e2, f2⟩ := a3 z2
      have e2' : f235 0 999 I1 J = some (nI (pm_nv c L (pm_nxt c L st)), I2, J) := e2
      have g2 := g235 e2'
      have j3 : (4 : Int32) * nI (pm_nv c L st) + 3 = nI (4 * pm_nv c L st + 3) := i4m _ 3
      rw [if_neg (show ¬ pm_nk c L 0 999 (pm_nxt c L st) ≠ 0 by omega), e2', zt_bind]
      dsimp only
      rw [v224f f2, if_pos rfl, j3, zt_in (by omega) (by omega), zt_gd, pm_lt_eq, nI_clamp (by omega)]
      refine ⟨fun q p z => (by cases z), fun i' n' t' D' z => ?_⟩
      cases z
      have dd : ∀ a p : Nat, a ≠ 4 → pm_D1 D 4 (pm_nv c L st) (pm_nv c L (pm_nxt c L st)) a p = D a p := fun a p ha => by unfold pm_D1; rw [if_neg (by omega)]
      have fd : ∀ f : Nat, 13 < f → pm_w I2 130 (4 * pm_nv c L st + 3) (nI (pm_nv c L (pm_nxt c L st))) 127 f = I 127 f := fun f hf => by rw [zt_wc (by decide), g2 127 f (by decide) (by simp; omega), g1 127 f (by decide) (by simp; omega)]
      have c2 : I2 130 = I 130 := by rw [ag_cell g2 (by decide) (by intro f; simp), ag_cell g1 (by decide) (by intro f; simp)]
      refine ⟨_, pm_stp c L (pm_nxt c L st), rfl, MF_w f2 (by decide) (by decide), rfl, ⟨hn8, ht5⟩, ⟨?_, ?_, ?_, ?_⟩, fun p hp => ?_, fun b hb => ?_⟩
      · rw [fd 14 (by omega)]; exact d14
      · rw [fd 15 (by omega)]; exact d15
      · rw [fd 16 (by omega), dd 9 0 (by omega)]; exact d16
      · rw [fd 17 (by omega), dd 8 0 (by omega)]; exact d17
      · rw [zt_wf (show 4 * p ≠ 4 * pm_nv c L st + 3 by omega), zt_wf (show 4 * p + 1 ≠ 4 * pm_nv c L st + 3 by omega), zt_wf (show 4 * p + 2 ≠ 4 * pm_nv c L st + 3 by omega), c2, dd 1 p (by omega), dd 2 p (by omega), dd 3 p (by omega)]
        refine ⟨(dn p hp).1, (dn p hp).2.1, (dn p hp).2.2.1, ?_⟩
        unfold pm_D1
        by_cases q : p = pm_nv c L st
        · rw [if_pos ⟨q, rfl⟩, q, zt_ws]
        · rw [if_neg (fun z => q z.1), zt_w2 (by omega), c2]
          exact (dn p hp).2.2.2
      · rw [zt_wc (show 131 ≠ 130 by decide), ag_cell g2 (by decide) (by intro f; simp), ag_cell g1 (by decide) (by intro f; simp), dd 5 b (by omega), dd 6 b (by omega), dd 7 b (by omega)]
        exact dt b hb
    · obtain ⟨I2, e2, x2⟩ := a4 z2
      have e2' : f235 0 999 I1 J = some (0, I2, J) := e2
      rw [if_pos z2, e2', zt_bind]
      dsimp only
      rw [v224x x2, if_neg (by decide)]
      refine ⟨fun q p z => ?_, fun i' n' t' D' z => (by cases z)⟩
      cases z
      exact ⟨_, rfl, x2⟩
  · obtain ⟨I1, e1, x1⟩ := a2 z1
    rw [if_pos z1, e1, zt_bind]
    dsimp only
    rw [e235x x1, zt_bind]
    dsimp only
    rw [v224x x1, if_neg (by decide)]
    refine ⟨fun q p z => ?_, fun i' n' t' D' z => (by cases z)⟩
    cases z
    exact ⟨_, rfl, x1⟩
end Rd
