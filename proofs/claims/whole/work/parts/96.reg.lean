/-! THE REGISTER'S TEXT: a clause of the class -/
section Rc
variable {I : Nat → Nat → Int32} {J : Nat → Nat → Int64} {k : Nat}
theorem e88 {c : Nat → Nat} {L i : Nat} (h : pm_CF c L i I) (hi : i ≤ L) : f88 I J = some (pm_ni 5 (pm_rI c L i), I, J) := by
  unfold f88 pm_rI
  rw [e132b h hi 2 (by decide), zt_bind, pm_fst]
  dsimp only
  by_cases a0 : pm_wb c L i 2 = true
  · rw [if_pos a0, if_pos a0]; rfl
  rw [if_neg a0, if_neg a0]
  rw [e132b h hi 4 (by decide), zt_bind, pm_fst]
  dsimp only
  by_cases a1 : pm_wb c L i 4 = true
  · rw [if_pos a1, if_pos a1]; rfl
  rw [if_neg a1, if_neg a1]
  rw [e132b h hi 6 (by decide), zt_bind, pm_fst]
  dsimp only
  by_cases a2 : pm_wb c L i 6 = true
  · rw [if_pos a2, if_pos a2]; rfl
  rw [if_neg a2, if_neg a2]
  rw [e132b h hi 8 (by decide), zt_bind, pm_fst]
  dsimp only
  by_cases a3 : pm_wb c L i 8 = true
  · rw [if_pos a3, if_pos a3]; rfl
  rw [if_neg a3, if_neg a3]
  rw [e132b h hi 10 (by decide), zt_bind, pm_fst]
  dsimp only
  by_cases a4 : pm_wb c L i 10 = true
  · rw [if_pos a4, if_pos a4]; rfl
  rw [if_neg a4, if_neg a4]
  rfl
theorem fst_le (c : Nat → Nat) (L i : Nat) : ∀ ws : List Nat, pm_fst c L i ws ≤ ws.length
  | [] => Nat.le_refl _
  | s :: r => by
    have := fst_le c L i r
    rw [pm_fst, List.length_cons]
    split <;> omega
theorem rI_le (c : Nat → Nat) (L i : Nat) : pm_rI c L i ≤ 5 := fst_le c L i [2, 4, 6, 8, 10]
theorem rI_l {c : Nat → Nat} {L i : Nat} (hi : i ≤ L) (h : pm_rI c L i ≠ 5) : i < L ∧ pm_kd c L i = 3 := fst_l hi [2, 4, 6, 8, 10] (by decide) (by have := rI_le c L i; show pm_rI c L i < 5; omega)
theorem e91 {c : Nat → Nat} {L i n t : Nat} {D : Nat → Nat → Nat} (h : pm_CF c L i I) (hi : i ≤ L) (hD : pm_CD k n t D I) : (∀ q p, pm_rb c L 2 i n t D = .inl (q, p) → ∃ I', f91 k I J = some ((), I', J) ∧ pm_CX q p I') ∧ (∀ i' n' t' D', pm_rb c L 2 i n t D = .inr (i', n', t', D') → ∃ I', f91 k I J = some ((), I', J) ∧ pm_CF c L i' I' ∧ pm_CD k n' t' D' I') := by
  obtain ⟨⟨hk, hn8, ht5⟩, ⟨d7, d8, d9, d10⟩, dn, dt⟩ := id hD
  have b1 := nx_b (c := c) hi
  unfold f91 pm_rb
  obtain ⟨a1, a2⟩ := e134m (J := J) (n := n) h hi hn8
  rw [if_neg (show ¬ (2 : Nat) = 0 by decide), if_neg (show ¬ (2 : Nat) = 1 by decide), if_pos rfl, d7]
  by_cases z1 : pm_nkm c L n i = 0
  · obtain ⟨I1, e1, f1⟩ := a1 z1
    have e1' : f134 0 (nI n - 1) I J = some (nI (pm_nv c L i), I1, J) := e1
    have g1 := c134 e1'
    have vb : pm_nv c L i < n := by
      unfold pm_nkm at z1
      by_cases n0 : n = 0
      · rw [if_pos n0] at z1
        exact absurd z1 (nk_10 c L i)
      · rw [if_neg n0] at z1
        have := (nk_0 z1).2.2
        omega
    obtain ⟨a3, a4⟩ := i134 (J := J) (i := pm_nxt c L i) (lo := 0) (hi := 999) f1 b1 (by omega) (by omega)
    rw [if_neg (show ¬ pm_nkm c L n i ≠ 0 by omega), e1', zt_bind]
    dsimp only
    by_cases z2 : pm_nk c L 0 999 (pm_nxt c L i) = 0
    · obtain ⟨I2, e2, f2⟩ := a3 z2
      have e2' : f134 0 999 I1 J = some (nI (pm_nv c L (pm_nxt c L i)), I2, J) := e2
      have g2 := c134 e2'
      have gg : ∀ a, 2 < a → I2 a = I a := fun a ha => by rw [g2 a ha, g1 a ha]
      rw [if_neg (show ¬ pm_nk c L 0 999 (pm_nxt c L i) ≠ 0 by omega), e2', zt_bind]
      dsimp only
      rw [zt_pw (by omega) (by omega), pm_lt_eq]
      refine ⟨fun q p z => (by cases z), fun i' n' t' D' z => ?_⟩
      cases z
      have kk : ∀ j : Nat, j ≤ 7 → j ≠ 4 → pm_w I2 (k + 4) (pm_nv c L i) (nI (pm_nv c L (pm_nxt c L i))) (k + j) = I (k + j) := fun j h1 h2 => by rw [zt_wc (by omega), gg (k + j) (by omega)]
      have k0 : pm_w I2 (k + 4) (pm_nv c L i) (nI (pm_nv c L (pm_nxt c L i))) k = I k := kk 0 (by omega) (by omega)
      have dd : ∀ a p : Nat, a ≠ 4 → pm_D1 D 4 (pm_nv c L i) (pm_nv c L (pm_nxt c L i)) a p = D a p := fun a p ha => by unfold pm_D1; rw [if_neg (by omega)]
      refine ⟨_, rfl, CF_w f2 (by omega), ⟨hk, hn8, ht5⟩, ?_, fun p hp => ?_, fun b hb => ?_⟩
      · rw [k0, dd 9 0 (by omega), dd 8 0 (by omega)]
        exact ⟨d7, d8, d9, d10⟩
      · rw [kk 1 (by omega) (by omega), kk 2 (by omega) (by omega), kk 3 (by omega) (by omega), dd 1 p (by omega), dd 2 p (by omega), dd 3 p (by omega)]
        refine ⟨(dn p hp).1, (dn p hp).2.1, (dn p hp).2.2.1, ?_⟩
        unfold pm_D1
        by_cases q : p = pm_nv c L i
        · rw [if_pos ⟨q, rfl⟩, q, zt_ws]
        · rw [if_neg (fun z => q z.1), zt_w2 (by omega), gg (k + 4) (by omega)]
          exact (dn p hp).2.2.2
      · rw [kk 5 (by omega) (by omega), kk 6 (by omega) (by omega), kk 7 (by omega) (by omega), dd 5 b (by omega), dd 6 b (by omega), dd 7 b (by omega)]
        exact dt b hb
    · obtain ⟨I2, e2, x2⟩ := a4 z2
      have e2' : f134 0 999 I1 J = some (0, I2, J) := e2
      rw [if_pos z2, e2', zt_bind]
      dsimp only
      rw [pm_lt_eq]
      refine ⟨fun q p z => ?_, fun i' n' t' D' z => (by cases z)⟩
      cases z
      exact ⟨_, rfl, CX_pw x2 (by omega)⟩
  · obtain ⟨I1, e1, x1⟩ := a2 z1
    obtain ⟨I2, e2, x2⟩ := e134x (J := J) (lo := 0) (hi := 999) x1
    rw [if_pos z1, e1, zt_bind]
    dsimp only
    rw [e2, zt_bind]
    dsimp only
    rw [pm_lt_eq]
    refine ⟨fun q p z => ?_, fun i' n' t' D' z => (by cases z)⟩
    cases z
    exact ⟨_, rfl, CX_pw x2 (by omega)⟩
/-- a number alone -/
theorem e1s {c : Nat → Nat} {L i n t : Nat} {D : Nat → Nat → Nat} (h : pm_CF c L i I) (hi : i ≤ L) (hD : pm_CD k n t D I) : (∀ q p, pm_rb c L 3 i n t D = .inl (q, p) → ∃ v I', f134 0 400 I J = some (v, I', J) ∧ pm_CX q p (pm_w I' k 9 v)) ∧ (∀ i' n' t' D', pm_rb c L 3 i n t D = .inr (i', n', t', D') → ∃ v I', f134 0 400 I J = some (v, I', J) ∧ pm_CF c L i' (pm_w I' k 9 v) ∧ pm_CD k n' t' D' (pm_w I' k 9 v)) := by
  obtain ⟨⟨hk, hn8, ht5⟩, ⟨d7, d8, d9, d10⟩, dn, dt⟩ := id hD
  obtain ⟨a1, a2⟩ := i134 (J := J) (lo := 0) (hi := 400) h hi (by omega) (by omega)
  unfold pm_rb
  rw [if_neg (show ¬ (3 : Nat) = 0 by decide), if_neg (show ¬ (3 : Nat) = 1 by decide), if_neg (show ¬ (3 : Nat) = 2 by decide), if_pos rfl]
  by_cases z1 : pm_nk c L 0 400 i = 0
  · obtain ⟨I1, e1, f1⟩ := a1 z1
    have g1 := c134 e1
    rw [if_neg (show ¬ pm_nk c L 0 400 i ≠ 0 by omega)]
    refine ⟨fun q p z => (by cases z), fun i' n' t' D' z => ?_⟩
    cases z
    have kk : ∀ j : Nat, 1 ≤ j → j ≤ 7 → pm_w I1 k 9 (nI (pm_nv c L i)) (k + j) = I (k + j) := fun j h1 h2 => by rw [zt_wc (by omega), g1 (k + j) (by omega)]
    have dd : ∀ a p : Nat, a ≠ 9 → pm_D1 D 9 0 (pm_nv c L i) a p = D a p := fun a p ha => by unfold pm_D1; rw [if_neg (by omega)]
    have de : pm_D1 D 9 0 (pm_nv c L i) 9 0 = pm_nv c L i := by unfold pm_D1; rw [if_pos ⟨rfl, rfl⟩]
    refine ⟨_, _, e1, CF_w f1 (by omega), ⟨hk, hn8, ht5⟩, ⟨?_, ?_, ?_, ?_⟩, fun p hp => ?_, fun b hb => ?_⟩
    · rw [zt_w2 (by omega), g1 k (by omega)]; exact d7
    · rw [zt_w2 (by omega), g1 k (by omega)]; exact d8
    · rw [zt_ws, de]
    · rw [zt_w2 (by omega), g1 k (by omega), dd 8 0 (by omega)]; exact d10
    · rw [kk 1 (by omega) (by omega), kk 2 (by omega) (by omega), kk 3 (by omega) (by omega), kk 4 (by omega) (by omega), dd 1 p (by omega), dd 2 p (by omega), dd 3 p (by omega), dd 4 p (by omega)]
      exact dn p hp
    · rw [kk 5 (by omega) (by omega), kk 6 (by omega) (by omega), kk 7 (by omega) (by omega), dd 5 b (by omega), dd 6 b (by omega), dd 7 b (by omega)]
      exact dt b hb
  · obtain ⟨I1, e1, x1⟩ := a2 z1
    rw [if_pos z1]
    refine ⟨fun q p z => ?_, fun i' n' t' D' z => (by cases z)⟩
    cases z
    exact ⟨_, _, e1, CX_w x1 (by omega)⟩
/-- a number alone -/
theorem e1v {c : Nat → Nat} {L i n t : Nat} {D : Nat → Nat → Nat} (h : pm_CF c L i I) (hi : i ≤ L) (hD : pm_CD k n t D I) : (∀ q p, pm_rb c L 4 i n t D = .inl (q, p) → ∃ v I', f134 0 20 I J = some (v, I', J) ∧ pm_CX q p (pm_w I' k 10 v)) ∧ (∀ i' n' t' D', pm_rb c L 4 i n t D = .inr (i', n', t', D') → ∃ v I', f134 0 20 I J = some (v, I', J) ∧ pm_CF c L i' (pm_w I' k 10 v) ∧ pm_CD k n' t' D' (pm_w I' k 10 v)) := by
  obtain ⟨⟨hk, hn8, ht5⟩, ⟨d7, d8, d9, d10⟩, dn, dt⟩ := id hD
  obtain ⟨a1, a2⟩ := i134 (J := J) (lo := 0) (hi := 20) h hi (by omega) (by omega)
  unfold pm_rb
  rw [if_neg (show ¬ (4 : Nat) = 0 by decide), if_neg (show ¬ (4 : Nat) = 1 by decide), if_neg (show ¬ (4 : Nat) = 2 by decide), if_neg (show ¬ (4 : Nat) = 3 by decide)]
  by_cases z1 : pm_nk c L 0 20 i = 0
  · obtain ⟨I1, e1, f1⟩ := a1 z1
    have g1 := c134 e1
    rw [if_neg (show ¬ pm_nk c L 0 20 i ≠ 0 by omega)]
    refine ⟨fun q p z => (by cases z), fun i' n' t' D' z => ?_⟩
    cases z
    have kk : ∀ j : Nat, 1 ≤ j → j ≤ 7 → pm_w I1 k 10 (nI (pm_nv c L i)) (k + j) = I (k + j) := fun j h1 h2 => by rw [zt_wc (by omega), g1 (k + j) (by omega)]
    have dd : ∀ a p : Nat, a ≠ 8 → pm_D1 D 8 0 (pm_nv c L i) a p = D a p := fun a p ha => by unfold pm_D1; rw [if_neg (by omega)]
    have de : pm_D1 D 8 0 (pm_nv c L i) 8 0 = pm_nv c L i := by unfold pm_D1; rw [if_pos ⟨rfl, rfl⟩]
    refine ⟨_, _, e1, CF_w f1 (by omega), ⟨hk, hn8, ht5⟩, ⟨?_, ?_, ?_, ?_⟩, fun p hp => ?_, fun b hb => ?_⟩
    · rw [zt_w2 (by omega), g1 k (by omega)]; exact d7
    · rw [zt_w2 (by omega), g1 k (by omega)]; exact d8
    · rw [zt_w2 (by omega), g1 k (by omega), dd 9 0 (by omega)]; exact d9
    · rw [zt_ws, de]
    · rw [kk 1 (by omega) (by omega), kk 2 (by omega) (by omega), kk 3 (by omega) (by omega), kk 4 (by omega) (by omega), dd 1 p (by omega), dd 2 p (by omega), dd 3 p (by omega), dd 4 p (by omega)]
      exact dn p hp
    · rw [kk 5 (by omega) (by omega), kk 6 (by omega) (by omega), kk 7 (by omega) (by omega), dd 5 b (by omega), dd 6 b (by omega), dd 7 b (by omega)]
      exact dt b hb
  · obtain ⟨I1, e1, x1⟩ := a2 z1
    rw [if_pos z1]
    refine ⟨fun q p z => ?_, fun i' n' t' D' z => (by cases z)⟩
    cases z
    exact ⟨_, _, e1, CX_w x1 (by omega)⟩
/-- the sign behind -/
theorem e59s {c : Nat → Nat} {L : Nat} {x : (Nat × Nat) ⊕ (Nat × Nat × Nat × (Nat → Nat → Nat))} {I1 : Nat → Nat → Int32} (hb : ∀ i' n' t' D', x = .inr (i', n', t', D') → i' ≤ L) (h1 : ∀ q p, x = .inl (q, p) → pm_CX q p I1) (h2 : ∀ i' n' t' D', x = .inr (i', n', t', D') → pm_CF c L i' I1 ∧ pm_CD k n' t' D' I1) : (∀ q p, pm_rs c L x = .inl (q, p) → ∃ I', f135 59 I1 J = some ((), I', J) ∧ pm_CX q p I') ∧ (∀ i' n' t' D', pm_rs c L x = .inr (i', n', t', D') → ∃ I', f135 59 I1 J = some ((), I', J) ∧ pm_CF c L i' I' ∧ pm_CD k n' t' D' I') := by
  cases x with
  | inl f =>
    obtain ⟨q, p⟩ := f
    obtain ⟨I2, e2, x2⟩ := e135x (J := J) (s := 59) (h1 q p rfl)
    refine ⟨fun q p z => ?_, fun i' n' t' D' z => (by cases z)⟩
    cases z
    exact ⟨I2, e2, x2⟩
  | inr y =>
    obtain ⟨i, n, t, D⟩ := y
    obtain ⟨f1, d1⟩ := h2 i n t D rfl
    obtain ⟨a1, a2⟩ := e135s (J := J) (s := 59) f1 (hb i n t D rfl) (by omega)
    dsimp only [pm_rs]
    by_cases s : i < L ∧ c i = 59
    · obtain ⟨I2, e2, f2⟩ := a1 s
      have e2' : f135 59 I1 J = some ((), I2, J) := e2
      rw [if_pos s]
      refine ⟨fun q p z => (by cases z), fun i' n' t' D' z => ?_⟩
      cases z
      exact ⟨I2, e2', f2, CD_1 d1 (c135 e2')⟩
    · obtain ⟨I2, e2, x2⟩ := a2 s
      rw [if_neg s]
      refine ⟨fun q p z => ?_, fun i' n' t' D' z => (by cases z)⟩
      cases z
      exact ⟨I2, e2, x2⟩
theorem rb_b {c : Nat → Nat} {L cl i n t : Nat} {D : Nat → Nat → Nat} (hi : i ≤ L) : ∀ i' n' t' D', pm_rb c L cl i n t D = .inr (i', n', t', D') → i' ≤ L := by
  intro i' n' t' D' h
  have b1 := nx_b (c := c) hi
  have b2 := nx_b (c := c) b1
  have b3 := nx_b (c := c) b2
  unfold pm_rb at h
  repeat' split at h
  all_goals first | (cases h; first | exact b1 | exact b2 | exact b3) | cases h
/-- when it is full -/
theorem e87f {c : Nat → Nat} {L i n t : Nat} {D : Nat → Nat → Nat} (h : pm_CF c L i I) (hi : i ≤ L) : ∃ q p I', pm_rcl c L true i n t D = .inl (q, p) ∧ f87 k 1 I J = some ((), I', J) ∧ pm_CX q p I' := by
  have e8 := e88 (J := J) h hi
  have rl := rI_le c L i
  unfold f87 pm_rcl
  by_cases z : pm_rI c L i = 5
  · obtain ⟨I1, e1, x1⟩ := e133 (J := J) (k := 1) h (by omega)
    have e1' : f133 1 I J = some ((), I1, J) := e1
    rw [show pm_ni 5 (pm_rI c L i) = -1 from if_neg (by omega)] at e8
    refine ⟨1, i, I1, by rw [if_pos z], ?_, x1⟩
    rw [e8, zt_bind]
    dsimp only
    rw [if_pos rfl, e1', zt_bind]
  · obtain ⟨I1, e1, x1⟩ := e133 (J := J) (k := 3) h (by omega)
    have e1' : f133 3 I J = some ((), I1, J) := e1
    rw [show pm_ni 5 (pm_rI c L i) = nI (pm_rI c L i) from if_pos (by omega)] at e8
    refine ⟨3, i, I1, by rw [if_neg z, if_pos (Or.inl rfl)], ?_, x1⟩
    rw [e8, zt_bind]
    dsimp only
    rw [if_neg (show ¬ nI (pm_rI c L i) = -1 by rw [zt_m1', zt_eqm (by omega)]; exact id), if_neg (show ¬ (1 : Int32) = 0 by decide), e1', zt_bind]
theorem e87 {c : Nat → Nat} {L i n t : Nat} {D : Nat → Nat → Nat} (h : pm_CF c L i I) (hi : i ≤ L) (hD : pm_CD k n t D I) : (∀ q p, pm_rcl c L false i n t D = .inl (q, p) → ∃ I', f87 k 0 I J = some ((), I', J) ∧ pm_CX q p I') ∧ (∀ i' n' t' D', pm_rcl c L false i n t D = .inr (i', n', t', D') → ∃ I', f87 k 0 I J = some ((), I', J) ∧ pm_CF c L i' I' ∧ pm_CD k n' t' D' I') := by
  have e8 := e88 (J := J) h hi
  have rl := rI_le c L i
  have i8 : ((8 : Int32)).toInt = 8 := by decide
  have i5 : ((5 : Int32)).toInt = 5 := by decide
  have hk := hD.1.1
  have n8 := hD.1.2.1
  have t5 := hD.1.2.2
  have d7 := hD.2.1.1
  have d8 := hD.2.1.2.1
  unfold pm_rcl
  by_cases z : pm_rI c L i = 5
  · obtain ⟨I1, e1, x1⟩ := e133 (J := J) (k := 1) h (by omega)
    have e1' : f133 1 I J = some ((), I1, J) := e1
    rw [show pm_ni 5 (pm_rI c L i) = -1 from if_neg (by omega)] at e8
    rw [if_pos z]
    refine ⟨fun q p z => ?_, fun i' n' t' D' z => (by cases z)⟩
    cases z
    refine ⟨I1, ?_, x1⟩
    unfold f87
    rw [e8, zt_bind]
    dsimp only
    rw [if_pos rfl, e1', zt_bind]
  · obtain ⟨iL, k3⟩ := rI_l hi z
    obtain ⟨nb1, nb2⟩ := nxt_g (c := c) iL
    obtain ⟨I3, e3, x3⟩ := e133 (J := J) (k := 3) h (by omega)
    have e3' : f133 3 I J = some ((), I3, J) := e3
    obtain ⟨I1, e1, f1'⟩ := CF_step (J := J) h hi
    have f1 : pm_CF c L (pm_nxt c L i) I1 := f1'
    have D1 : pm_CD k n t D I1 := CD_1 hD (c128 e1)
    rw [show pm_ni 5 (pm_rI c L i) = nI (pm_rI c L i) from if_pos (by omega)] at e8
    rw [if_neg z]
    have cs : pm_rI c L i = 0 ∨ pm_rI c L i = 1 ∨ pm_rI c L i = 2 ∨ pm_rI c L i = 3 ∨ pm_rI c L i = 4 := by omega
    rcases cs with cs | cs | cs | cs | cs
    · rw [cs] at e8
      have e8' : f88 I J = some (0, I, J) := e8
      rw [cs]
      by_cases fu : n = 8
      · rw [if_pos (show false = true ∨ (0 : Nat) = 0 ∧ n = 8 ∨ (0 : Nat) = 1 ∧ t = 5 by omega)]
        refine ⟨fun q p z => ?_, fun i' n' t' D' z => (by cases z)⟩
        cases z
        refine ⟨I3, ?_, x3⟩
        have hc : ¬ (I k 7).toInt < (8 : Int32).toInt := by rw [d7, nI_toInt (by omega), i8]; omega
        unfold f87
        rw [e8', zt_bind]
        simp only [show (((0 : Int32)) = -1) = False from by decide, show (((0 : Int32)) = 1) = False from by decide, show (((0 : Int32)) = 2) = False from by decide, show (((0 : Int32)) = 3) = False from by decide, show (((0 : Int32)) = 4) = False from by decide, show (((1 : Int32)) = -1) = False from by decide, show (((1 : Int32)) = 0) = False from by decide, show (((1 : Int32)) = 2) = False from by decide, show (((1 : Int32)) = 3) = False from by decide, show (((1 : Int32)) = 4) = False from by decide, show (((2 : Int32)) = -1) = False from by decide, show (((2 : Int32)) = 0) = False from by decide, show (((2 : Int32)) = 1) = False from by decide, show (((2 : Int32)) = 3) = False from by decide, show (((2 : Int32)) = 4) = False from by decide, show (((3 : Int32)) = -1) = False from by decide, show (((3 : Int32)) = 0) = False from by decide, show (((3 : Int32)) = 1) = False from by decide, show (((3 : Int32)) = 2) = False from by decide, show (((3 : Int32)) = 4) = False from by decide, show (((4 : Int32)) = -1) = False from by decide, show (((4 : Int32)) = 0) = False from by decide, show (((4 : Int32)) = 1) = False from by decide, show (((4 : Int32)) = 2) = False from by decide, show (((4 : Int32)) = 3) = False from by decide, if_true, if_false, hc, e3', zt_bind]
      · rw [if_neg (show ¬ (false = true ∨ (0 : Nat) = 0 ∧ n = 8 ∨ (0 : Nat) = 1 ∧ t = 5) by simp; omega)]
        have hc : (I k 7).toInt < (8 : Int32).toInt := by rw [d7, nI_toInt (by omega), i8]; omega
        obtain ⟨a1, a2⟩ := e89 (J := J) f1 nb2 D1 (by omega)
        have body : f87 k 0 I J = (f89 k I1 J).bind (fun (ov, I4, J4) => (f135 59 I4 J4).bind (fun (ov, I5, J5) => some ((), I5, J5))) := by
          unfold f87
          rw [e8', zt_bind]
          simp only [show (((0 : Int32)) = -1) = False from by decide, show (((0 : Int32)) = 1) = False from by decide, show (((0 : Int32)) = 2) = False from by decide, show (((0 : Int32)) = 3) = False from by decide, show (((0 : Int32)) = 4) = False from by decide, show (((1 : Int32)) = -1) = False from by decide, show (((1 : Int32)) = 0) = False from by decide, show (((1 : Int32)) = 2) = False from by decide, show (((1 : Int32)) = 3) = False from by decide, show (((1 : Int32)) = 4) = False from by decide, show (((2 : Int32)) = -1) = False from by decide, show (((2 : Int32)) = 0) = False from by decide, show (((2 : Int32)) = 1) = False from by decide, show (((2 : Int32)) = 3) = False from by decide, show (((2 : Int32)) = 4) = False from by decide, show (((3 : Int32)) = -1) = False from by decide, show (((3 : Int32)) = 0) = False from by decide, show (((3 : Int32)) = 1) = False from by decide, show (((3 : Int32)) = 2) = False from by decide, show (((3 : Int32)) = 4) = False from by decide, show (((4 : Int32)) = -1) = False from by decide, show (((4 : Int32)) = 0) = False from by decide, show (((4 : Int32)) = 1) = False from by decide, show (((4 : Int32)) = 2) = False from by decide, show (((4 : Int32)) = 3) = False from by decide, if_true, if_false, hc, e1, zt_bind]
        rw [body]
        cases y : pm_rb c L 0 (pm_nxt c L i) n t D with
        | inl f =>
          obtain ⟨q, p⟩ := f
          obtain ⟨I4, e4, x4⟩ := a1 q p y
          obtain ⟨b1, b2⟩ := e59s (k := k) (J := J) (c := c) (L := L) (x := .inl (q, p)) (I1 := I4) (fun i' n' t' D' z => (by cases z)) (fun q p z => (by cases z; exact x4)) (fun i' n' t' D' z => (by cases z))
          rw [e4, zt_bind]
          dsimp only
          refine ⟨fun q p z => ?_, fun i' n' t' D' z => ?_⟩
          · obtain ⟨I5, e5, x5⟩ := b1 q p z
            rw [e5, zt_bind]
            exact ⟨I5, rfl, x5⟩
          · obtain ⟨I5, e5, x5⟩ := b2 i' n' t' D' z
            rw [e5, zt_bind]
            exact ⟨I5, rfl, x5⟩
        | inr f =>
          obtain ⟨j', m', s', E'⟩ := f
          obtain ⟨I4, e4, f4, d4⟩ := a2 j' m' s' E' y
          have jb := rb_b nb2 j' m' s' E' y
          obtain ⟨b1, b2⟩ := e59s (k := k) (J := J) (c := c) (L := L) (x := .inr (j', m', s', E')) (I1 := I4) (fun i' n' t' D' z => (by cases z; exact jb)) (fun q p z => (by cases z)) (fun i' n' t' D' z => (by cases z; exact ⟨f4, d4⟩))
          rw [e4, zt_bind]
          dsimp only
          refine ⟨fun q p z => ?_, fun i' n' t' D' z => ?_⟩
          · obtain ⟨I5, e5, x5⟩ := b1 q p z
            rw [e5, zt_bind]
            exact ⟨I5, rfl, x5⟩
          · obtain ⟨I5, e5, x5⟩ := b2 i' n' t' D' z
            rw [e5, zt_bind]
            exact ⟨I5, rfl, x5⟩
    · rw [cs] at e8
      have e8' : f88 I J = some (1, I, J) := e8
      rw [cs]
      by_cases fu : t = 5
      · rw [if_pos (show false = true ∨ (1 : Nat) = 0 ∧ n = 8 ∨ (1 : Nat) = 1 ∧ t = 5 by omega)]
        refine ⟨fun q p z => ?_, fun i' n' t' D' z => (by cases z)⟩
        cases z
        refine ⟨I3, ?_, x3⟩
        have hc : ¬ (I k 8).toInt < (5 : Int32).toInt := by rw [d8, nI_toInt (by omega), i5]; omega
        unfold f87
        rw [e8', zt_bind]
        simp only [show (((0 : Int32)) = -1) = False from by decide, show (((0 : Int32)) = 1) = False from by decide, show (((0 : Int32)) = 2) = False from by decide, show (((0 : Int32)) = 3) = False from by decide, show (((0 : Int32)) = 4) = False from by decide, show (((1 : Int32)) = -1) = False from by decide, show (((1 : Int32)) = 0) = False from by decide, show (((1 : Int32)) = 2) = False from by decide, show (((1 : Int32)) = 3) = False from by decide, show (((1 : Int32)) = 4) = False from by decide, show (((2 : Int32)) = -1) = False from by decide, show (((2 : Int32)) = 0) = False from by decide, show (((2 : Int32)) = 1) = False from by decide, show (((2 : Int32)) = 3) = False from by decide, show (((2 : Int32)) = 4) = False from by decide, show (((3 : Int32)) = -1) = False from by decide, show (((3 : Int32)) = 0) = False from by decide, show (((3 : Int32)) = 1) = False from by decide, show (((3 : Int32)) = 2) = False from by decide, show (((3 : Int32)) = 4) = False from by decide, show (((4 : Int32)) = -1) = False from by decide, show (((4 : Int32)) = 0) = False from by decide, show (((4 : Int32)) = 1) = False from by decide, show (((4 : Int32)) = 2) = False from by decide, show (((4 : Int32)) = 3) = False from by decide, if_true, if_false, hc, e3', zt_bind]
      · rw [if_neg (show ¬ (false = true ∨ (1 : Nat) = 0 ∧ n = 8 ∨ (1 : Nat) = 1 ∧ t = 5) by simp; omega)]
        have hc : (I k 8).toInt < (5 : Int32).toInt := by rw [d8, nI_toInt (by omega), i5]; omega
        obtain ⟨a1, a2⟩ := e90 (J := J) f1 nb2 D1 (by omega)
        have body : f87 k 0 I J = (f90 k I1 J).bind (fun (ov, I4, J4) => (f135 59 I4 J4).bind (fun (ov, I5, J5) => some ((), I5, J5))) := by
          unfold f87
          rw [e8', zt_bind]
          simp only [show (((0 : Int32)) = -1) = False from by decide, show (((0 : Int32)) = 1) = False from by decide, show (((0 : Int32)) = 2) = False from by decide, show (((0 : Int32)) = 3) = False from by decide, show (((0 : Int32)) = 4) = False from by decide, show (((1 : Int32)) = -1) = False from by decide, show (((1 : Int32)) = 0) = False from by decide, show (((1 : Int32)) = 2) = False from by decide, show (((1 : Int32)) = 3) = False from by decide, show (((1 : Int32)) = 4) = False from by decide, show (((2 : Int32)) = -1) = False from by decide, show (((2 : Int32)) = 0) = False from by decide, show (((2 : Int32)) = 1) = False from by decide, show (((2 : Int32)) = 3) = False from by decide, show (((2 : Int32)) = 4) = False from by decide, show (((3 : Int32)) = -1) = False from by decide, show (((3 : Int32)) = 0) = False from by decide, show (((3 : Int32)) = 1) = False from by decide, show (((3 : Int32)) = 2) = False from by decide, show (((3 : Int32)) = 4) = False from by decide, show (((4 : Int32)) = -1) = False from by decide, show (((4 : Int32)) = 0) = False from by decide, show (((4 : Int32)) = 1) = False from by decide, show (((4 : Int32)) = 2) = False from by decide, show (((4 : Int32)) = 3) = False from by decide, if_true, if_false, hc, e1, zt_bind]
        rw [body]
        cases y : pm_rb c L 1 (pm_nxt c L i) n t D with
        | inl f =>
          obtain ⟨q, p⟩ := f
          obtain ⟨I4, e4, x4⟩ := a1 q p y
          obtain ⟨b1, b2⟩ := e59s (k := k) (J := J) (c := c) (L := L) (x := .inl (q, p)) (I1 := I4) (fun i' n' t' D' z => (by cases z)) (fun q p z => (by cases z; exact x4)) (fun i' n' t' D' z => (by cases z))
          rw [e4, zt_bind]
          dsimp only
          refine ⟨fun q p z => ?_, fun i' n' t' D' z => ?_⟩
          · obtain ⟨I5, e5, x5⟩ := b1 q p z
            rw [e5, zt_bind]
            exact ⟨I5, rfl, x5⟩
          · obtain ⟨I5, e5, x5⟩ := b2 i' n' t' D' z
            rw [e5, zt_bind]
            exact ⟨I5, rfl, x5⟩
        | inr f =>
          obtain ⟨j', m', s', E'⟩ := f
          obtain ⟨I4, e4, f4, d4⟩ := a2 j' m' s' E' y
          have jb := rb_b nb2 j' m' s' E' y
          obtain ⟨b1, b2⟩ := e59s (k := k) (J := J) (c := c) (L := L) (x := .inr (j', m', s', E')) (I1 := I4) (fun i' n' t' D' z => (by cases z; exact jb)) (fun q p z => (by cases z)) (fun i' n' t' D' z => (by cases z; exact ⟨f4, d4⟩))
          rw [e4, zt_bind]
          dsimp only
          refine ⟨fun q p z => ?_, fun i' n' t' D' z => ?_⟩
          · obtain ⟨I5, e5, x5⟩ := b1 q p z
            rw [e5, zt_bind]
            exact ⟨I5, rfl, x5⟩
          · obtain ⟨I5, e5, x5⟩ := b2 i' n' t' D' z
            rw [e5, zt_bind]
            exact ⟨I5, rfl, x5⟩
    · rw [cs] at e8
      have e8' : f88 I J = some (2, I, J) := e8
      rw [cs]
      rw [if_neg (show ¬ (false = true ∨ (2 : Nat) = 0 ∧ n = 8 ∨ (2 : Nat) = 1 ∧ t = 5) by simp)]
      obtain ⟨a1, a2⟩ := e91 (J := J) f1 nb2 D1
      have body : f87 k 0 I J = (f91 k I1 J).bind (fun (ov, I4, J4) => (f135 59 I4 J4).bind (fun (ov, I5, J5) => some ((), I5, J5))) := by
        unfold f87
        rw [e8', zt_bind]
        simp only [show (((0 : Int32)) = -1) = False from by decide, show (((0 : Int32)) = 1) = False from by decide, show (((0 : Int32)) = 2) = False from by decide, show (((0 : Int32)) = 3) = False from by decide, show (((0 : Int32)) = 4) = False from by decide, show (((1 : Int32)) = -1) = False from by decide, show (((1 : Int32)) = 0) = False from by decide, show (((1 : Int32)) = 2) = False from by decide, show (((1 : Int32)) = 3) = False from by decide, show (((1 : Int32)) = 4) = False from by decide, show (((2 : Int32)) = -1) = False from by decide, show (((2 : Int32)) = 0) = False from by decide, show (((2 : Int32)) = 1) = False from by decide, show (((2 : Int32)) = 3) = False from by decide, show (((2 : Int32)) = 4) = False from by decide, show (((3 : Int32)) = -1) = False from by decide, show (((3 : Int32)) = 0) = False from by decide, show (((3 : Int32)) = 1) = False from by decide, show (((3 : Int32)) = 2) = False from by decide, show (((3 : Int32)) = 4) = False from by decide, show (((4 : Int32)) = -1) = False from by decide, show (((4 : Int32)) = 0) = False from by decide, show (((4 : Int32)) = 1) = False from by decide, show (((4 : Int32)) = 2) = False from by decide, show (((4 : Int32)) = 3) = False from by decide, if_true, if_false, e1, zt_bind]
      rw [body]
      cases y : pm_rb c L 2 (pm_nxt c L i) n t D with
      | inl f =>
        obtain ⟨q, p⟩ := f
        obtain ⟨I4, e4, x4⟩ := a1 q p y
        obtain ⟨b1, b2⟩ := e59s (k := k) (J := J) (c := c) (L := L) (x := .inl (q, p)) (I1 := I4) (fun i' n' t' D' z => (by cases z)) (fun q p z => (by cases z; exact x4)) (fun i' n' t' D' z => (by cases z))
        rw [e4, zt_bind]
        dsimp only
        refine ⟨fun q p z => ?_, fun i' n' t' D' z => ?_⟩
        · obtain ⟨I5, e5, x5⟩ := b1 q p z
          rw [e5, zt_bind]
          exact ⟨I5, rfl, x5⟩
        · obtain ⟨I5, e5, x5⟩ := b2 i' n' t' D' z
          rw [e5, zt_bind]
          exact ⟨I5, rfl, x5⟩
      | inr f =>
        obtain ⟨j', m', s', E'⟩ := f
        obtain ⟨I4, e4, f4, d4⟩ := a2 j' m' s' E' y
        have jb := rb_b nb2 j' m' s' E' y
        obtain ⟨b1, b2⟩ := e59s (k := k) (J := J) (c := c) (L := L) (x := .inr (j', m', s', E')) (I1 := I4) (fun i' n' t' D' z => (by cases z; exact jb)) (fun q p z => (by cases z)) (fun i' n' t' D' z => (by cases z; exact ⟨f4, d4⟩))
        rw [e4, zt_bind]
        dsimp only
        refine ⟨fun q p z => ?_, fun i' n' t' D' z => ?_⟩
        · obtain ⟨I5, e5, x5⟩ := b1 q p z
          rw [e5, zt_bind]
          exact ⟨I5, rfl, x5⟩
        · obtain ⟨I5, e5, x5⟩ := b2 i' n' t' D' z
          rw [e5, zt_bind]
          exact ⟨I5, rfl, x5⟩
    · rw [cs] at e8
      have e8' : f88 I J = some (3, I, J) := e8
      rw [cs]
      rw [if_neg (show ¬ (false = true ∨ (3 : Nat) = 0 ∧ n = 8 ∨ (3 : Nat) = 1 ∧ t = 5) by simp)]
      obtain ⟨a1, a2⟩ := e1s (J := J) f1 nb2 D1
      have body : f87 k 0 I J = (f134 0 400 I1 J).bind (fun (ov207, I208, J209) => pm_lt (pm_w I208 k 9 ov207) (fun I211 => (f135 59 I211 J209).bind (fun (ov212, I213, J214) => some ((), I213, J214)))) := by
        unfold f87
        rw [e8', zt_bind]
        simp only [show (((0 : Int32)) = -1) = False from by decide, show (((0 : Int32)) = 1) = False from by decide, show (((0 : Int32)) = 2) = False from by decide, show (((0 : Int32)) = 3) = False from by decide, show (((0 : Int32)) = 4) = False from by decide, show (((1 : Int32)) = -1) = False from by decide, show (((1 : Int32)) = 0) = False from by decide, show (((1 : Int32)) = 2) = False from by decide, show (((1 : Int32)) = 3) = False from by decide, show (((1 : Int32)) = 4) = False from by decide, show (((2 : Int32)) = -1) = False from by decide, show (((2 : Int32)) = 0) = False from by decide, show (((2 : Int32)) = 1) = False from by decide, show (((2 : Int32)) = 3) = False from by decide, show (((2 : Int32)) = 4) = False from by decide, show (((3 : Int32)) = -1) = False from by decide, show (((3 : Int32)) = 0) = False from by decide, show (((3 : Int32)) = 1) = False from by decide, show (((3 : Int32)) = 2) = False from by decide, show (((3 : Int32)) = 4) = False from by decide, show (((4 : Int32)) = -1) = False from by decide, show (((4 : Int32)) = 0) = False from by decide, show (((4 : Int32)) = 1) = False from by decide, show (((4 : Int32)) = 2) = False from by decide, show (((4 : Int32)) = 3) = False from by decide, if_true, if_false, e1, zt_bind]
      rw [body]
      cases y : pm_rb c L 3 (pm_nxt c L i) n t D with
      | inl f =>
        obtain ⟨q, p⟩ := f
        obtain ⟨v4, I4, e4, x4⟩ := a1 q p y
        obtain ⟨b1, b2⟩ := e59s (k := k) (J := J) (c := c) (L := L) (x := .inl (q, p)) (I1 := pm_w I4 k 9 v4) (fun i' n' t' D' z => (by cases z)) (fun q p z => (by cases z; exact x4)) (fun i' n' t' D' z => (by cases z))
        rw [e4, zt_bind]
        dsimp only
        rw [pm_lt_eq]
        refine ⟨fun q p z => ?_, fun i' n' t' D' z => ?_⟩
        · obtain ⟨I5, e5, x5⟩ := b1 q p z
          rw [e5, zt_bind]
          exact ⟨I5, rfl, x5⟩
        · obtain ⟨I5, e5, x5⟩ := b2 i' n' t' D' z
          rw [e5, zt_bind]
          exact ⟨I5, rfl, x5⟩
      | inr f =>
        obtain ⟨j', m', s', E'⟩ := f
        obtain ⟨v4, I4, e4, f4, d4⟩ := a2 j' m' s' E' y
        have jb := rb_b nb2 j' m' s' E' y
        obtain ⟨b1, b2⟩ := e59s (k := k) (J := J) (c := c) (L := L) (x := .inr (j', m', s', E')) (I1 := pm_w I4 k 9 v4) (fun i' n' t' D' z => (by cases z; exact jb)) (fun q p z => (by cases z)) (fun i' n' t' D' z => (by cases z; exact ⟨f4, d4⟩))
        rw [e4, zt_bind]
        dsimp only
        rw [pm_lt_eq]
        refine ⟨fun q p z => ?_, fun i' n' t' D' z => ?_⟩
        · obtain ⟨I5, e5, x5⟩ := b1 q p z
          rw [e5, zt_bind]
          exact ⟨I5, rfl, x5⟩
        · obtain ⟨I5, e5, x5⟩ := b2 i' n' t' D' z
          rw [e5, zt_bind]
          exact ⟨I5, rfl, x5⟩
    · rw [cs] at e8
      have e8' : f88 I J = some (4, I, J) := e8
      rw [cs]
      rw [if_neg (show ¬ (false = true ∨ (4 : Nat) = 0 ∧ n = 8 ∨ (4 : Nat) = 1 ∧ t = 5) by simp)]
      obtain ⟨a1, a2⟩ := e1v (J := J) f1 nb2 D1
      have body : f87 k 0 I J = (f134 0 20 I1 J).bind (fun (ov207, I208, J209) => pm_lt (pm_w I208 k 10 ov207) (fun I211 => (f135 59 I211 J209).bind (fun (ov212, I213, J214) => some ((), I213, J214)))) := by
        unfold f87
        rw [e8', zt_bind]
        simp only [show (((0 : Int32)) = -1) = False from by decide, show (((0 : Int32)) = 1) = False from by decide, show (((0 : Int32)) = 2) = False from by decide, show (((0 : Int32)) = 3) = False from by decide, show (((0 : Int32)) = 4) = False from by decide, show (((1 : Int32)) = -1) = False from by decide, show (((1 : Int32)) = 0) = False from by decide, show (((1 : Int32)) = 2) = False from by decide, show (((1 : Int32)) = 3) = False from by decide, show (((1 : Int32)) = 4) = False from by decide, show (((2 : Int32)) = -1) = False from by decide, show (((2 : Int32)) = 0) = False from by decide, show (((2 : Int32)) = 1) = False from by decide, show (((2 : Int32)) = 3) = False from by decide, show (((2 : Int32)) = 4) = False from by decide, show (((3 : Int32)) = -1) = False from by decide, show (((3 : Int32)) = 0) = False from by decide, show (((3 : Int32)) = 1) = False from by decide, show (((3 : Int32)) = 2) = False from by decide, show (((3 : Int32)) = 4) = False from by decide, show (((4 : Int32)) = -1) = False from by decide, show (((4 : Int32)) = 0) = False from by decide, show (((4 : Int32)) = 1) = False from by decide, show (((4 : Int32)) = 2) = False from by decide, show (((4 : Int32)) = 3) = False from by decide, if_true, if_false, e1, zt_bind]
      rw [body]
      cases y : pm_rb c L 4 (pm_nxt c L i) n t D with
      | inl f =>
        obtain ⟨q, p⟩ := f
        obtain ⟨v4, I4, e4, x4⟩ := a1 q p y
        obtain ⟨b1, b2⟩ := e59s (k := k) (J := J) (c := c) (L := L) (x := .inl (q, p)) (I1 := pm_w I4 k 10 v4) (fun i' n' t' D' z => (by cases z)) (fun q p z => (by cases z; exact x4)) (fun i' n' t' D' z => (by cases z))
        rw [e4, zt_bind]
        dsimp only
        rw [pm_lt_eq]
        refine ⟨fun q p z => ?_, fun i' n' t' D' z => ?_⟩
        · obtain ⟨I5, e5, x5⟩ := b1 q p z
          rw [e5, zt_bind]
          exact ⟨I5, rfl, x5⟩
        · obtain ⟨I5, e5, x5⟩ := b2 i' n' t' D' z
          rw [e5, zt_bind]
          exact ⟨I5, rfl, x5⟩
      | inr f =>
        obtain ⟨j', m', s', E'⟩ := f
        obtain ⟨v4, I4, e4, f4, d4⟩ := a2 j' m' s' E' y
        have jb := rb_b nb2 j' m' s' E' y
        obtain ⟨b1, b2⟩ := e59s (k := k) (J := J) (c := c) (L := L) (x := .inr (j', m', s', E')) (I1 := pm_w I4 k 10 v4) (fun i' n' t' D' z => (by cases z; exact jb)) (fun q p z => (by cases z)) (fun i' n' t' D' z => (by cases z; exact ⟨f4, d4⟩))
        rw [e4, zt_bind]
        dsimp only
        rw [pm_lt_eq]
        refine ⟨fun q p z => ?_, fun i' n' t' D' z => ?_⟩
        · obtain ⟨I5, e5, x5⟩ := b1 q p z
          rw [e5, zt_bind]
          exact ⟨I5, rfl, x5⟩
        · obtain ⟨I5, e5, x5⟩ := b2 i' n' t' D' z
          rw [e5, zt_bind]
          exact ⟨I5, rfl, x5⟩
end Rc
