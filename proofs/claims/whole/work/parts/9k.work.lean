/-! WORK'S TEXT: the numbers of a step; the class -/
/-- the numbers behind the word -/
def pm_s5 (c : Nat → Nat) (L n t k j : Nat) : (Nat × Nat) ⊕ (Nat × Nat × Nat) :=
  if k = 0 ∨ k = 7 then .inr (j, 0, 0)
  else if pm_nkm c L n j ≠ 0 then .inl (pm_nkm c L n j, j)
  else if k = 1 then (if pm_nkm c L t (pm_nxt c L j) ≠ 0 then .inl (pm_nkm c L t (pm_nxt c L j), pm_nxt c L j) else .inr (pm_nxt c L (pm_nxt c L j), pm_nv c L j, pm_nv c L (pm_nxt c L j)))
  else if k = 2 then (if pm_nk c L 1 24 (pm_nxt c L j) ≠ 0 then .inl (pm_nk c L 1 24 (pm_nxt c L j), pm_nxt c L j) else .inr (pm_nxt c L (pm_nxt c L j), pm_nv c L j, pm_nv c L (pm_nxt c L j)))
  else .inr (pm_nxt c L j, pm_nv c L j, 0)
def pm_s6 (c : Nat → Nat) (L k m : Nat) (X : Nat → Nat × Nat × Nat × Nat) (r : (Nat × Nat) ⊕ (Nat × Nat × Nat)) : (Nat × Nat) ⊕ (Nat × Nat × (Nat → Nat × Nat × Nat × Nat)) := match r with
  | .inl f => .inl f
  | .inr (j, a, b) => pm_smi c L j (m + 1) (pm_xu X m (k, a, b, m + 1))
theorem stR_p {c : Nat → Nat} {L n t o i m : Nat} {X : Nat → Nat × Nat × Nat × Nat} {H : Nat → Nat → Nat → (Nat → Nat × Nat × Nat × Nat) → (Nat × Nat) ⊕ (Nat × Nat × (Nat → Nat × Nat × Nat × Nat))} (h9 : pm_stI c L i ≠ 9) (h8 : pm_stI c L i ≠ 8) : pm_stR c L n t H o i m X = pm_s6 c L (pm_stI c L i) m X (pm_s5 c L n t (pm_stI c L i) (pm_nxt c L i)) := by
  unfold pm_stR pm_s5
  rw [if_neg h9, if_neg h8]
  by_cases c07 : pm_stI c L i = 0 ∨ pm_stI c L i = 7
  · rw [if_pos c07, if_pos c07]
    rfl
  rw [if_neg c07, if_neg c07]
  by_cases z : pm_nkm c L n (pm_nxt c L i) ≠ 0
  · rw [if_pos z, if_pos z]
    rfl
  rw [if_neg z, if_neg z]
  by_cases c1 : pm_stI c L i = 1
  · rw [if_pos c1, if_pos c1]
    by_cases z2 : pm_nkm c L t (pm_nxt c L (pm_nxt c L i)) ≠ 0
    · rw [if_pos z2, if_pos z2]
      rfl
    · rw [if_neg z2, if_neg z2, c1]
      rfl
  rw [if_neg c1, if_neg c1]
  by_cases c2 : pm_stI c L i = 2
  · rw [if_pos c2, if_pos c2]
    by_cases z2 : pm_nk c L 1 24 (pm_nxt c L (pm_nxt c L i)) ≠ 0
    · rw [if_pos z2, if_pos z2]
      rfl
    · rw [if_neg z2, if_neg z2, c2]
      rfl
  rw [if_neg c2, if_neg c2]
  rfl
theorem s5_b {c : Nat → Nat} {L n t k j : Nat} (hj : j ≤ L) : ∀ j' a b, pm_s5 c L n t k j = .inr (j', a, b) → j' ≤ L := by
  intro j' a b h
  have b1 := nx_b (c := c) hj
  have b2 := nx_b (c := c) b1
  unfold pm_s5 at h
  repeat' split at h
  all_goals first | (cases h; first | exact hj | exact b1 | exact b2) | cases h
section Wa
variable {I : Nat → Nat → Int32} {J : Nat → Nat → Int64} {r : Nat}
theorem e113 {c : Nat → Nat} {L i : Nat} (h : pm_CF c L i I) (hi : i ≤ L) : f113 I J = some (pm_ni 9 (pm_stI c L i), I, J) := by
  unfold f113 pm_stI
  rw [e132b h hi 32 (by decide), zt_bind, pm_fst]
  dsimp only
  by_cases a0 : pm_wb c L i 32 = true
  · rw [if_pos a0, if_pos a0]; rfl
  rw [if_neg a0, if_neg a0]
  rw [e132b h hi 34 (by decide), zt_bind, pm_fst]
  dsimp only
  by_cases a1 : pm_wb c L i 34 = true
  · rw [if_pos a1, if_pos a1]; rfl
  rw [if_neg a1, if_neg a1]
  rw [e132b h hi 36 (by decide), zt_bind, pm_fst]
  dsimp only
  by_cases a2 : pm_wb c L i 36 = true
  · rw [if_pos a2, if_pos a2]; rfl
  rw [if_neg a2, if_neg a2]
  rw [e132b h hi 38 (by decide), zt_bind, pm_fst]
  dsimp only
  by_cases a3 : pm_wb c L i 38 = true
  · rw [if_pos a3, if_pos a3]; rfl
  rw [if_neg a3, if_neg a3]
  rw [e132b h hi 40 (by decide), zt_bind, pm_fst]
  dsimp only
  by_cases a4 : pm_wb c L i 40 = true
  · rw [if_pos a4, if_pos a4]; rfl
  rw [if_neg a4, if_neg a4]
  rw [e132b h hi 42 (by decide), zt_bind, pm_fst]
  dsimp only
  by_cases a5 : pm_wb c L i 42 = true
  · rw [if_pos a5, if_pos a5]; rfl
  rw [if_neg a5, if_neg a5]
  rw [e132b h hi 44 (by decide), zt_bind, pm_fst]
  dsimp only
  by_cases a6 : pm_wb c L i 44 = true
  · rw [if_pos a6, if_pos a6]; rfl
  rw [if_neg a6, if_neg a6]
  rw [e132b h hi 30 (by decide), zt_bind, pm_fst]
  dsimp only
  by_cases a7 : pm_wb c L i 30 = true
  · rw [if_pos a7, if_pos a7]; rfl
  rw [if_neg a7, if_neg a7]
  rw [e132b h hi 46 (by decide), zt_bind, pm_fst]
  dsimp only
  by_cases a8 : pm_wb c L i 46 = true
  · rw [if_pos a8, if_pos a8]; rfl
  rw [if_neg a8, if_neg a8]
  rfl
theorem e115 {c : Nat → Nat} {L j n t k m : Nat} (h : pm_CF c L j I) (hj : j ≤ L) (hr : r = 15 ∨ r = 113) (hk : k < 8) (hm : m < 150) (h98 : I 98 m = nI k) (hn : I r 7 = nI n) (ht : I r 8 = nI t) (n8 : n ≤ 8) (t5 : t ≤ 5) : (∀ q p, pm_s5 c L n t k j = .inl (q, p) → ∃ I', f115 r (nI m) I J = some ((), I', J) ∧ pm_CX q p I') ∧ (∀ j' a b, pm_s5 c L n t k j = .inr (j', a, b) → ∃ I', f115 r (nI m) I J = some ((), I', J) ∧ pm_CF c L j' I' ∧ (1 ≤ k → k ≤ 6 → I' 99 m = nI a) ∧ (k = 1 ∨ k = 2 → I' 100 m = nI b) ∧ (∀ q, q ≠ m → I' 99 q = I 99 q ∧ I' 100 q = I 100 q) ∧ (∀ a, 2 < a → a ≠ 99 → a ≠ 100 → I' a = I a)) := by
  have at8 : pm_at (I 98) 150 (nI m) = nI k := by rw [zt_at (by omega) (by omega)]; exact h98
  have b1 := nx_b (c := c) hj
  unfold f115 pm_s5
  rw [at8]
  by_cases k0 : k = 0
  · rw [if_pos (show nI k = 0 by rw [k0]; rfl), if_pos (Or.inl k0)]
    refine ⟨fun q p z => (by cases z), fun j' a b z => ?_⟩
    cases z
    exact ⟨I, rfl, h, fun a => by omega, fun a => by omega, fun _ _ => ⟨rfl, rfl⟩, fun _ _ _ _ => rfl⟩
  rw [if_neg (show ¬ nI k = 0 by rw [← nI_0, zt_eq (by omega) (by omega)]; exact k0)]
  by_cases k7 : k = 7
  · rw [if_pos (show nI k = 7 by rw [k7]; rfl), if_pos (Or.inr k7)]
    refine ⟨fun q p z => (by cases z), fun j' a b z => ?_⟩
    cases z
    exact ⟨I, rfl, h, fun a => by omega, fun a => by omega, fun _ _ => ⟨rfl, rfl⟩, fun _ _ _ _ => rfl⟩
  rw [if_neg (show ¬ nI k = 7 by rw [zt_lit 7, zt_eq (by omega) (by omega)]; exact k7), if_neg (fun z => z.elim k0 k7), hn]
  have e1k : (nI k = 1) = (k = 1) := by rw [zt_lit 1, zt_eq (by omega) (by omega)]
  have e2k : (nI k = 2) = (k = 2) := by rw [zt_lit 2, zt_eq (by omega) (by omega)]
  obtain ⟨a1, a2⟩ := e134m (J := J) (n := n) h hj n8
  by_cases z1 : pm_nkm c L n j = 0
  · obtain ⟨I1, e1, f1⟩ := a1 z1
    have e1' : f134 0 (nI n - 1) I J = some (nI (pm_nv c L j), I1, J) := e1
    have g1 := c134 e1'
    rw [if_neg (show ¬ pm_nkm c L n j ≠ 0 by omega), e1', zt_bind]
    dsimp only
    rw [zt_pw (by omega) (by omega), pm_lt_eq]
    have w1 : pm_CF c L (pm_nxt c L j) (pm_w I1 99 m (nI (pm_nv c L j))) := CF_w f1 (by omega)
    have r8 : pm_w I1 99 m (nI (pm_nv c L j)) r 8 = nI t := by rw [zt_wc (by omega), g1 r (by omega)]; exact ht
    have q99 : ∀ q, q ≠ m → pm_w I1 99 m (nI (pm_nv c L j)) 99 q = I 99 q := fun q hq => by rw [zt_wf hq, g1 99 (by omega)]
    have q100 : pm_w I1 99 m (nI (pm_nv c L j)) 100 = I 100 := by rw [zt_wc (by decide), g1 100 (by omega)]
    have qo : ∀ a, 2 < a → a ≠ 99 → pm_w I1 99 m (nI (pm_nv c L j)) a = I a := fun a h1 h2 => by rw [zt_wc h2, g1 a h1]
    have two : ∀ (I2 : Nat → Nat → Int32) (v : Nat) (x y : Int32), f134 x y (pm_w I1 99 m (nI (pm_nv c L j))) J = some (nI v, I2, J) → pm_w I2 100 m (nI v) 99 m = nI (pm_nv c L j) ∧ (∀ q, q ≠ m → pm_w I2 100 m (nI v) 99 q = I 99 q ∧ pm_w I2 100 m (nI v) 100 q = I 100 q) ∧ ∀ a, 2 < a → a ≠ 99 → a ≠ 100 → pm_w I2 100 m (nI v) a = I a := by
      intro I2 v x y e2
      have g2 := c134 e2
      refine ⟨by rw [zt_wc (by decide), g2 99 (by omega), zt_ws], fun q hq => ⟨by rw [zt_wc (by decide), g2 99 (by omega)]; exact q99 q hq, by rw [zt_wf hq, g2 100 (by omega), q100]⟩, fun a h1 h2 h3 => by rw [zt_wc h3, g2 a h1]; exact qo a h1 h2⟩
    by_cases k1 : k = 1
    · rw [if_pos (show nI k = 1 by rw [e1k]; exact k1), if_pos k1, r8]
      obtain ⟨a3, a4⟩ := e134m (J := J) (n := t) w1 b1 (by omega)
      by_cases z2 : pm_nkm c L t (pm_nxt c L j) = 0
      · obtain ⟨I2, e2, f2⟩ := a3 z2
        have e2' : f134 0 (nI t - 1) (pm_w I1 99 m (nI (pm_nv c L j))) J = some (nI (pm_nv c L (pm_nxt c L j)), I2, J) := e2
        obtain ⟨t1, t2, t3⟩ := two I2 _ _ _ e2'
        rw [if_neg (show ¬ pm_nkm c L t (pm_nxt c L j) ≠ 0 by omega), e2', zt_bind]
        dsimp only
        rw [zt_pw (by omega) (by omega), pm_lt_eq]
        refine ⟨fun q p z => (by cases z), fun j' a b z => ?_⟩
        cases z
        exact ⟨_, rfl, CF_w f2 (by omega), fun _ _ => t1, fun _ => zt_ws, t2, t3⟩
      · obtain ⟨I2, e2, x2⟩ := a4 z2
        rw [if_pos z2, e2, zt_bind]
        dsimp only
        rw [pm_lt_eq]
        refine ⟨fun q p z => ?_, fun j' a b z => (by cases z)⟩
        cases z
        exact ⟨_, rfl, CX_pw x2 (by omega)⟩
    rw [if_neg (show ¬ nI k = 1 by rw [e1k]; exact k1), if_neg k1]
    by_cases k2 : k = 2
    · rw [if_pos (show nI k = 2 by rw [e2k]; exact k2), if_pos k2]
      obtain ⟨a3, a4⟩ := i134 (J := J) (lo := 1) (hi := 24) w1 b1 (by omega) (by omega)
      by_cases z2 : pm_nk c L 1 24 (pm_nxt c L j) = 0
      · obtain ⟨I2, e2, f2⟩ := a3 z2
        have e2' : f134 1 24 (pm_w I1 99 m (nI (pm_nv c L j))) J = some (nI (pm_nv c L (pm_nxt c L j)), I2, J) := e2
        obtain ⟨t1, t2, t3⟩ := two I2 _ _ _ e2'
        rw [if_neg (show ¬ pm_nk c L 1 24 (pm_nxt c L j) ≠ 0 by omega), e2', zt_bind]
        dsimp only
        rw [zt_pw (by omega) (by omega), pm_lt_eq]
        refine ⟨fun q p z => (by cases z), fun j' a b z => ?_⟩
        cases z
        exact ⟨_, rfl, CF_w f2 (by omega), fun _ _ => t1, fun _ => zt_ws, t2, t3⟩
      · obtain ⟨I2, e2, x2⟩ := a4 z2
        have e2' : f134 1 24 (pm_w I1 99 m (nI (pm_nv c L j))) J = some (0, I2, J) := e2
        rw [if_pos z2, e2', zt_bind]
        dsimp only
        rw [pm_lt_eq]
        refine ⟨fun q p z => ?_, fun j' a b z => (by cases z)⟩
        cases z
        exact ⟨_, rfl, CX_pw x2 (by omega)⟩
    · rw [if_neg (show ¬ nI k = 2 by rw [e2k]; exact k2), if_neg k2]
      refine ⟨fun q p z => (by cases z), fun j' a b z => ?_⟩
      cases z
      exact ⟨_, rfl, w1, fun _ _ => zt_ws, fun a => by omega, fun q hq => ⟨q99 q hq, by rw [q100]⟩, fun a h1 h2 _ => qo a h1 h2⟩
  · obtain ⟨I1, e1, x1⟩ := a2 z1
    rw [if_pos z1, e1, zt_bind]
    dsimp only
    rw [pm_lt_eq]
    have x2 : pm_CX (pm_nkm c L n j) j (pm_pw I1 99 150 (nI m) 0) := CX_pw x1 (by omega)
    refine ⟨fun q p z => ?_, fun j' a b z => (by cases z)⟩
    cases z
    by_cases k1 : k = 1
    · obtain ⟨I2, e2, x2'⟩ := e134x (J := J) (lo := 0) (hi := pm_pw I1 99 150 (nI m) 0 r 8 - 1) x2
      rw [if_pos (show nI k = 1 by rw [e1k]; exact k1), e2, zt_bind]
      exact ⟨_, rfl, CX_pw x2' (by omega)⟩
    · rw [if_neg (show ¬ nI k = 1 by rw [e1k]; exact k1)]
      by_cases k2 : k = 2
      · obtain ⟨I2, e2, x2'⟩ := e134x (J := J) (lo := 1) (hi := 24) x2
        rw [if_pos (show nI k = 2 by rw [e2k]; exact k2), e2, zt_bind]
        exact ⟨_, rfl, CX_pw x2' (by omega)⟩
      · rw [if_neg (show ¬ nI k = 2 by rw [e2k]; exact k2)]
        exact ⟨_, rfl, x2⟩
end Wa
