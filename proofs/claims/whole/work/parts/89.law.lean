/-! THE LAW'S TEXT: products and sums -/
def pm_pl (c : Nat → Nat) (L : Nat) (U : Nat → Nat → Nat → (Nat → Nat) → (Nat × Nat) ⊕ (Nat × Nat × (Nat → Nat))) (s1 s2 x1 x2 : Nat) : Nat → Nat → Nat → Nat → (Nat → Nat) → (Nat × Nat) ⊕ (Nat × Nat × (Nat → Nat))
  | 0, _, i, l, k => .inr (i, l, k)
  | d + 1, o, i, l, k => if i < L ∧ (c i = s1 ∨ c i = s2) then (match U o (pm_nx1 c L i) l k with
      | .inl f => .inl f
      | .inr (i2, l2, k2) => pm_pl c L U s1 s2 x1 x2 d o i2 (l2 + 1) (pm_cup k2 l2 (if c i = s1 then x1 else x2))) else .inr (i, l, k)
def pm_lvl (c : Nat → Nat) (L : Nat) (U : Nat → Nat → Nat → (Nat → Nat) → (Nat × Nat) ⊕ (Nat × Nat × (Nat → Nat))) (s1 s2 x1 x2 : Nat) (o i l : Nat) (k : Nat → Nat) : (Nat × Nat) ⊕ (Nat × Nat × (Nat → Nat)) := match U o i l k with
  | .inl f => .inl f
  | .inr (i1, l1, k1) => pm_pl c L U s1 s2 x1 x2 L o i1 l1 k1
def pm_hG (L n b o i l : Nat) (k : Nat → Nat) : Prop := o ≤ 6 ∧ i ≤ L ∧ L - i < n ∧ l ≤ i ∧ pm_hts k l + b + 3 * (6 - o) ≤ 31
def pm_GP (L n b : Nat) (U : Nat → Nat → Nat → (Nat → Nat) → (Nat × Nat) ⊕ (Nat × Nat × (Nat → Nat))) : Prop := ∀ o i l k, pm_hG L n b o i l k → pm_lR L i l k 1 (U o i l k)
def pm_GC (c : Nat → Nat) (L n b : Nat) (U : Nat → Nat → Nat → (Nat → Nat) → (Nat × Nat) ⊕ (Nat × Nat × (Nat → Nat))) (lab fl dl : Nat) : Prop := ∀ o i l k, pm_hG L n b o i l k → ∀ fu dep, 4 * (L - i) + fl ≤ fu → 4 * (6 - o) + dl ≤ dep → pm_lC c L i l k (U o i l k) (fun I J => g21 94 fu dep lab (nI o) 0 I J)
def pm_GM (c : Nat → Nat) (L n b : Nat) (U : Nat → Nat → Nat → (Nat → Nat) → (Nat × Nat) ⊕ (Nat × Nat × (Nat → Nat))) (lab fl dl : Nat) : Prop := ∀ o i l k, pm_hG L n b o i l k → ∀ fu dep, 4 * (L - i) + fl ≤ fu → 4 * (6 - o) + dl ≤ dep → pm_lM c L i l k o (U o i l k) (fun I J => g242 fu dep lab 0 0 I J)
theorem lx_q {l l1 x : Nat} {k k1 : Nat → Nat} (h : pm_lx l k l1 k1 1) (hx : 8 ≤ x ∧ x < 14) (h1 : 1 ≤ pm_hts k l) (hh : pm_hts k l ≤ 31) : pm_lx l k (l1 + 1) (pm_cup k1 l1 x) 0 := by
  obtain ⟨a1, a2, a3, a4⟩ := h
  have e : ∀ j, j < l1 → pm_cup k1 l1 x j = k1 j := fun j hj => if_neg (by omega)
  have e2 : pm_cup k1 l1 x l1 = x := if_pos rfl
  have e3 := hts_c (k := k1) (k' := pm_cup k1 l1 x) l1 e
  refine ⟨by omega, fun j hj => by rw [e j (by omega), a2 j hj], fun j h1 h2 => ?_, ?_⟩
  · by_cases q : j < l1
    · exact lok_c (a3 j h1 q) (fun p hp => e p (by omega))
    · rw [show j = l1 by omega]
      unfold pm_lok
      rw [e2, e3]
      omega
  · rw [pm_hts, e2, e3, if_pos hx]
    omega
theorem pl_p {c : Nat → Nat} {L n b s1 s2 x1 x2 : Nat} {U : Nat → Nat → Nat → (Nat → Nat) → (Nat × Nat) ⊕ (Nat × Nat × (Nat → Nat))} (hU : pm_GP L n b U) (h1 : 8 ≤ x1 ∧ x1 < 14) (h2 : 8 ≤ x2 ∧ x2 < 14) : ∀ d o i l k, 1 ≤ pm_hts k l → pm_hG L n b o i l k → pm_lR L i l k 0 (pm_pl c L U s1 s2 x1 x2 d o i l k) := by
  intro d
  induction d with
  | zero =>
    intro o i l k hh hg
    rw [pm_pl]
    exact ⟨hg.2.1, by omega, by omega, lx_0 l k⟩
  | succ d ih =>
    intro o i l k hh hg
    obtain ⟨g1, g2, g3, g4, g5⟩ := hg
    rw [pm_pl]
    by_cases s : i < L ∧ (c i = s1 ∨ c i = s2)
    · rw [if_pos s]
      have nb := nx1_b (c := c) s.1
      have pp := hU o (pm_nx1 c L i) l k ⟨g1, by omega, by omega, by omega, g5⟩
      cases w : U o (pm_nx1 c L i) l k with
      | inl f => exact trivial
      | inr t =>
        obtain ⟨i2, l2, k2⟩ := t
        rw [w] at pp
        obtain ⟨p1, p2, p3, p4⟩ := pp
        have hx : 8 ≤ (if c i = s1 then x1 else x2) ∧ (if c i = s1 then x1 else x2) < 14 := by
          split
          · exact h1
          · exact h2
        have q := lx_q p4 hx hh (by omega)
        have qh := q.2.2.2
        have r := ih o i2 (l2 + 1) (pm_cup k2 l2 (if c i = s1 then x1 else x2)) (by rw [qh]; omega) ⟨g1, p1, by omega, by omega, by rw [qh]; omega⟩
        dsimp only
        cases w2 : pm_pl c L U s1 s2 x1 x2 d o i2 (l2 + 1) (pm_cup k2 l2 (if c i = s1 then x1 else x2)) with
        | inl f => exact trivial
        | inr t =>
          obtain ⟨i3, l3, k3⟩ := t
          rw [w2] at r
          obtain ⟨r1, r2, r3, r4⟩ := r
          exact ⟨r1, by omega, by omega, lx_t q r4⟩
    · rw [if_neg s]
      exact ⟨g2, by omega, by omega, lx_0 l k⟩
theorem lv_p {c : Nat → Nat} {L n b s1 s2 x1 x2 : Nat} {U : Nat → Nat → Nat → (Nat → Nat) → (Nat × Nat) ⊕ (Nat × Nat × (Nat → Nat))} (hU : pm_GP L n b U) (h1 : 8 ≤ x1 ∧ x1 < 14) (h2 : 8 ≤ x2 ∧ x2 < 14) : pm_GP L n (b + 1) (pm_lvl c L U s1 s2 x1 x2) := by
  intro o i l k hg
  obtain ⟨g1, g2, g3, g4, g5⟩ := hg
  have pp := hU o i l k ⟨g1, g2, g3, g4, by omega⟩
  unfold pm_lvl
  cases w : U o i l k with
  | inl f => exact trivial
  | inr t =>
    obtain ⟨i1, l1, k1⟩ := t
    rw [w] at pp
    obtain ⟨p1, p2, p3, p4⟩ := pp
    have ph := p4.2.2.2
    have r := pl_p (c := c) (s1 := s1) (s2 := s2) hU h1 h2 L o i1 l1 k1 (by omega) ⟨g1, p1, by omega, by omega, by omega⟩
    dsimp only
    cases w2 : pm_pl c L U s1 s2 x1 x2 L o i1 l1 k1 with
    | inl f => exact trivial
    | inr t =>
      obtain ⟨i3, l3, k3⟩ := t
      rw [w2] at r
      obtain ⟨r1, r2, r3, r4⟩ := r
      exact ⟨r1, by omega, by omega, lx_t p4 r4⟩
theorem pl_c4 {c : Nat → Nat} {L n : Nat} {U : Nat → Nat → Nat → (Nat → Nat) → (Nat × Nat) ⊕ (Nat × Nat × (Nat → Nat))} (hL : L ≤ 150) (hP : pm_GP L n 0 U) (hU : pm_GC c L n 0 U 2 1 5) : ∀ d o i l k y fu dep, L - i ≤ d → y ≤ i → 1 ≤ pm_hts k l → pm_hG L n 0 o i l k → 4 * (L - i) + 2 ≤ fu → 4 * (6 - o) + 6 ≤ dep → pm_lC c L i l k (pm_pl c L U 42 47 10 11 d o i l k) (fun I J => g21 94 fu dep 4 (nI o) (nI y) I J) := by
  have i150 : ((150 : Int32)).toInt = 150 := by decide
  intro d
  induction d with
  | zero =>
    intro o i l k y fu dep hd hy hh hg hf hdp
    obtain ⟨fu, rfl⟩ : ∃ q, fu = q + 1 := ⟨fu - 1, by omega⟩
    obtain ⟨dep, rfl⟩ : ∃ q, dep = q + 1 := ⟨dep - 1, by omega⟩
    intro I J h hk
    have v1 : v136 42 I = decide (i < L ∧ c i = 42) := v136f (s := 42) h hg.2.1 (by omega)
    have v2 : v136 47 I = decide (i < L ∧ c i = 47) := v136f (s := 47) h hg.2.1 (by omega)
    rw [decide_eq_false (by omega)] at v1 v2
    dsimp only
    rw [g21, v1, v2, pm_pl]
    simp only [Bool.false_eq_true, if_false, ite_self]
    refine ⟨fun q p w => (by cases w), fun i' l' k' w => ?_⟩
    cases w
    exact ⟨I, rfl, h, hk⟩
  | succ d ih =>
    intro o i l k y fu dep hd hy hh hg hf hdp
    obtain ⟨fu, rfl⟩ : ∃ q, fu = q + 1 := ⟨fu - 1, by omega⟩
    obtain ⟨dep, rfl⟩ : ∃ q, dep = q + 1 := ⟨dep - 1, by omega⟩
    intro I J h hk
    obtain ⟨g1, g2, g3, g4, g5⟩ := id hg
    have v1 : v136 42 I = decide (i < L ∧ c i = 42) := v136f (s := 42) h g2 (by omega)
    have v2 : v136 47 I = decide (i < L ∧ c i = 47) := v136f (s := 47) h g2 (by omega)
    dsimp only
    rw [g21, v1, v2, pm_pl]
    by_cases s : i < L ∧ (c i = 42 ∨ c i = 47)
    · have nb := nx1_b (c := c) s.1
      have hgi : pm_hG L n 0 o (pm_nx1 c L i) l k := ⟨g1, by omega, by omega, by omega, g5⟩
      have pp := hP o (pm_nx1 c L i) l k hgi
      obtain ⟨sg, hsg, hsg2⟩ : ∃ sg, c i = sg ∧ (sg = 42 ∨ sg = 47) := ⟨c i, rfl, s.2⟩
      obtain ⟨I1, e1, f1⟩ := e128s (J := J) (s := sg) h ⟨s.1, hsg⟩ (by omega)
      have gg1 := (fr_128 _ _ _ e1).1
      obtain ⟨t1, t2⟩ := hU o (pm_nx1 c L i) l k hgi fu dep (by omega) (by omega) I1 J f1 (CL_f hk gg1 rfl)
      dsimp only at t1 t2
      rw [if_pos s, i150, nI_toInt (by omega), if_pos (show ((y : Nat) : Int) < 150 by omega), nI_1]
      have fin : ∀ x : Nat, x = (if c i = 42 then 10 else 11) → (∀ q p, (match U o (pm_nx1 c L i) l k with | .inl f => .inl f | .inr (i2, l2, k2) => pm_pl c L U 42 47 10 11 d o i2 (l2 + 1) (pm_cup k2 l2 (if c i = 42 then 10 else 11)) : (Nat × Nat) ⊕ (Nat × Nat × (Nat → Nat))) = .inl (q, p) → ∃ I', (f128 I J).bind (fun (ov16, I17, J18) => (g21 94 fu dep 2 (nI o) 0 I17 J18).bind (fun (ov20, I21, J22) => (f17 94 (nI x) I21 J22).bind (fun (ov24, I25, J26) => g21 94 fu (dep + 1) 4 (nI o) (nI (y + 1)) I25 J26))) = some ((), I', J) ∧ pm_CX q p I') ∧ (∀ i' l' k', (match U o (pm_nx1 c L i) l k with | .inl f => .inl f | .inr (i2, l2, k2) => pm_pl c L U 42 47 10 11 d o i2 (l2 + 1) (pm_cup k2 l2 (if c i = 42 then 10 else 11)) : (Nat × Nat) ⊕ (Nat × Nat × (Nat → Nat))) = .inr (i', l', k') → ∃ I', (f128 I J).bind (fun (ov16, I17, J18) => (g21 94 fu dep 2 (nI o) 0 I17 J18).bind (fun (ov20, I21, J22) => (f17 94 (nI x) I21 J22).bind (fun (ov24, I25, J26) => g21 94 fu (dep + 1) 4 (nI o) (nI (y + 1)) I25 J26))) = some ((), I', J) ∧ pm_CF c L i' I' ∧ pm_CL 94 l' k' I') := by
        intro x hx
        rw [e1, zt_bind]
        dsimp only
        rw [← hx]
        cases w : U o (pm_nx1 c L i) l k with
        | inl f =>
          obtain ⟨q, p⟩ := f
          obtain ⟨I2, e2, x2⟩ := t1 q p w
          obtain ⟨I3, e3, x3⟩ := e17x (J := J) (x := nI x) x2
          obtain ⟨fv, rfl⟩ : ∃ q, fu = q + 1 := ⟨fu - 1, by omega⟩
          rw [e2, zt_bind]
          dsimp only
          rw [e3, zt_bind]
          dsimp only
          rw [x21_l x3 (by omega)]
          refine ⟨fun q p w => ?_, fun i' l' k' w => (by cases w)⟩
          cases w
          exact ⟨I3, rfl, x3⟩
        | inr t =>
          obtain ⟨i2, l2, k2⟩ := t
          rw [w] at pp
          obtain ⟨p1, p2, p3, p4⟩ := pp
          obtain ⟨I2, e2, f2, c2⟩ := t2 i2 l2 k2 w
          obtain ⟨I3, e3, c3, gg3⟩ := e17 (J := J) (x := x) c2 (by omega)
          have f3 : pm_CF c L i2 I3 := CF_ag f2 (ag_cell gg3 (by decide) (by intro f; simp)) (ag_cell gg3 (by decide) (by intro f; simp))
          have q := lx_q p4 (show 8 ≤ x ∧ x < 14 by rw [hx]; split <;> omega) hh (by omega)
          have qh := q.2.2.2
          rw [e2, zt_bind]
          dsimp only
          rw [e3, zt_bind]
          dsimp only
          exact ih o i2 (l2 + 1) (pm_cup k2 l2 x) (y + 1) fu (dep + 1) (by omega) (by omega) (by rw [qh]; omega) ⟨g1, p1, by omega, by omega, by rw [qh]; omega⟩ (by omega) (by omega) I3 J f3 c3
      by_cases z : c i = 42
      · rw [decide_eq_true ⟨s.1, z⟩, if_pos rfl, if_pos rfl]
        exact fin 10 (by rw [if_pos z])
      · rw [decide_eq_false (show ¬ (i < L ∧ c i = 42) from fun q => z q.2), decide_eq_true (show i < L ∧ c i = 47 from ⟨s.1, by omega⟩), if_neg (show ¬ false = true by decide), if_pos (show true = true from rfl), if_neg (show ¬ false = true by decide)]
        exact fin 11 (by rw [if_neg z])
    · rw [if_neg s, decide_eq_false (show ¬ (i < L ∧ c i = 42) by omega), decide_eq_false (show ¬ (i < L ∧ c i = 47) by omega)]
      simp only [Bool.false_eq_true, if_false, ite_self]
      refine ⟨fun q p w => (by cases w), fun i' l' k' w => ?_⟩
      cases w
      exact ⟨I, rfl, h, hk⟩
theorem lv_c1 {c : Nat → Nat} {L n : Nat} {U : Nat → Nat → Nat → (Nat → Nat) → (Nat × Nat) ⊕ (Nat × Nat × (Nat → Nat))} (hL : L ≤ 150) (hP : pm_GP L n 0 U) (hU : pm_GC c L n 0 U 2 1 5) : pm_GC c L n 1 (pm_lvl c L U 42 47 10 11) 1 2 6 := by
  intro o i l k hg fu dep hf hd I J h hk
  obtain ⟨fu, rfl⟩ : ∃ q, fu = q + 1 := ⟨fu - 1, by omega⟩
  obtain ⟨dep, rfl⟩ : ∃ q, dep = q + 1 := ⟨dep - 1, by omega⟩
  obtain ⟨g1, g2, g3, g4, g5⟩ := id hg
  have hgi : pm_hG L n 0 o i l k := ⟨g1, g2, g3, g4, by omega⟩
  have pp := hP o i l k hgi
  obtain ⟨t1, t2⟩ := hU o i l k hgi fu dep (by omega) (by omega) I J h hk
  dsimp only at t1 t2
  dsimp only
  rw [g21]
  unfold pm_lvl
  cases w : U o i l k with
  | inl f =>
    obtain ⟨q, p⟩ := f
    obtain ⟨I2, e2, x2⟩ := t1 q p w
    obtain ⟨fv, rfl⟩ : ∃ q, fu = q + 1 := ⟨fu - 1, by omega⟩
    rw [e2, zt_bind]
    dsimp only
    rw [x21_l x2 (by omega)]
    refine ⟨fun q p w => ?_, fun i' l' k' w => (by cases w)⟩
    cases w
    exact ⟨I2, rfl, x2⟩
  | inr t =>
    obtain ⟨i1, l1, k1⟩ := t
    rw [w] at pp
    obtain ⟨p1, p2, p3, p4⟩ := pp
    have ph := p4.2.2.2
    obtain ⟨I2, e2, f2, c2⟩ := t2 i1 l1 k1 w
    rw [e2, zt_bind]
    dsimp only
    have r := pl_c4 hL hP hU L o i1 l1 k1 0 fu (dep + 1) (by omega) (by omega) (by omega) ⟨g1, p1, by omega, by omega, by omega⟩ (by omega) (by omega) I2 J f2 c2
    dsimp only at r
    rw [nI_0] at r
    exact r
theorem pl_c3 {c : Nat → Nat} {L n : Nat} {U : Nat → Nat → Nat → (Nat → Nat) → (Nat × Nat) ⊕ (Nat × Nat × (Nat → Nat))} (hL : L ≤ 150) (hP : pm_GP L n 1 U) (hU : pm_GC c L n 1 U 1 2 6) : ∀ d o i l k y fu dep, L - i ≤ d → y ≤ i → 1 ≤ pm_hts k l → pm_hG L n 1 o i l k → 4 * (L - i) + 3 ≤ fu → 4 * (6 - o) + 7 ≤ dep → pm_lC c L i l k (pm_pl c L U 43 45 8 9 d o i l k) (fun I J => g21 94 fu dep 3 (nI o) (nI y) I J) := by
  have i150 : ((150 : Int32)).toInt = 150 := by decide
  intro d
  induction d with
  | zero =>
    intro o i l k y fu dep hd hy hh hg hf hdp
    obtain ⟨fu, rfl⟩ : ∃ q, fu = q + 1 := ⟨fu - 1, by omega⟩
    obtain ⟨dep, rfl⟩ : ∃ q, dep = q + 1 := ⟨dep - 1, by omega⟩
    intro I J h hk
    have v1 : v136 43 I = decide (i < L ∧ c i = 43) := v136f (s := 43) h hg.2.1 (by omega)
    have v2 : v136 45 I = decide (i < L ∧ c i = 45) := v136f (s := 45) h hg.2.1 (by omega)
    rw [decide_eq_false (by omega)] at v1 v2
    dsimp only
    rw [g21, v1, v2, pm_pl]
    simp only [Bool.false_eq_true, if_false, ite_self]
    refine ⟨fun q p w => (by cases w), fun i' l' k' w => ?_⟩
    cases w
    exact ⟨I, rfl, h, hk⟩
  | succ d ih =>
    intro o i l k y fu dep hd hy hh hg hf hdp
    obtain ⟨fu, rfl⟩ : ∃ q, fu = q + 1 := ⟨fu - 1, by omega⟩
    obtain ⟨dep, rfl⟩ : ∃ q, dep = q + 1 := ⟨dep - 1, by omega⟩
    intro I J h hk
    obtain ⟨g1, g2, g3, g4, g5⟩ := id hg
    have v1 : v136 43 I = decide (i < L ∧ c i = 43) := v136f (s := 43) h g2 (by omega)
    have v2 : v136 45 I = decide (i < L ∧ c i = 45) := v136f (s := 45) h g2 (by omega)
    dsimp only
    rw [g21, v1, v2, pm_pl]
    by_cases s : i < L ∧ (c i = 43 ∨ c i = 45)
    · have nb := nx1_b (c := c) s.1
      have hgi : pm_hG L n 1 o (pm_nx1 c L i) l k := ⟨g1, by omega, by omega, by omega, g5⟩
      have pp := hP o (pm_nx1 c L i) l k hgi
      obtain ⟨sg, hsg, hsg2⟩ : ∃ sg, c i = sg ∧ (sg = 43 ∨ sg = 45) := ⟨c i, rfl, s.2⟩
      obtain ⟨I1, e1, f1⟩ := e128s (J := J) (s := sg) h ⟨s.1, hsg⟩ (by omega)
      have gg1 := (fr_128 _ _ _ e1).1
      obtain ⟨t1, t2⟩ := hU o (pm_nx1 c L i) l k hgi fu dep (by omega) (by omega) I1 J f1 (CL_f hk gg1 rfl)
      dsimp only at t1 t2
      rw [if_pos s, i150, nI_toInt (by omega), if_pos (show ((y : Nat) : Int) < 150 by omega), nI_1]
      have fin : ∀ x : Nat, x = (if c i = 43 then 8 else 9) → (∀ q p, (match U o (pm_nx1 c L i) l k with | .inl f => .inl f | .inr (i2, l2, k2) => pm_pl c L U 43 45 8 9 d o i2 (l2 + 1) (pm_cup k2 l2 (if c i = 43 then 8 else 9)) : (Nat × Nat) ⊕ (Nat × Nat × (Nat → Nat))) = .inl (q, p) → ∃ I', (f128 I J).bind (fun (ov16, I17, J18) => (g21 94 fu dep 1 (nI o) 0 I17 J18).bind (fun (ov20, I21, J22) => (f17 94 (nI x) I21 J22).bind (fun (ov24, I25, J26) => g21 94 fu (dep + 1) 3 (nI o) (nI (y + 1)) I25 J26))) = some ((), I', J) ∧ pm_CX q p I') ∧ (∀ i' l' k', (match U o (pm_nx1 c L i) l k with | .inl f => .inl f | .inr (i2, l2, k2) => pm_pl c L U 43 45 8 9 d o i2 (l2 + 1) (pm_cup k2 l2 (if c i = 43 then 8 else 9)) : (Nat × Nat) ⊕ (Nat × Nat × (Nat → Nat))) = .inr (i', l', k') → ∃ I', (f128 I J).bind (fun (ov16, I17, J18) => (g21 94 fu dep 1 (nI o) 0 I17 J18).bind (fun (ov20, I21, J22) => (f17 94 (nI x) I21 J22).bind (fun (ov24, I25, J26) => g21 94 fu (dep + 1) 3 (nI o) (nI (y + 1)) I25 J26))) = some ((), I', J) ∧ pm_CF c L i' I' ∧ pm_CL 94 l' k' I') := by
        intro x hx
        rw [e1, zt_bind]
        dsimp only
        rw [← hx]
        cases w : U o (pm_nx1 c L i) l k with
        | inl f =>
          obtain ⟨q, p⟩ := f
          obtain ⟨I2, e2, x2⟩ := t1 q p w
          obtain ⟨I3, e3, x3⟩ := e17x (J := J) (x := nI x) x2
          obtain ⟨fv, rfl⟩ : ∃ q, fu = q + 1 := ⟨fu - 1, by omega⟩
          rw [e2, zt_bind]
          dsimp only
          rw [e3, zt_bind]
          dsimp only
          rw [x21_l x3 (by omega)]
          refine ⟨fun q p w => ?_, fun i' l' k' w => (by cases w)⟩
          cases w
          exact ⟨I3, rfl, x3⟩
        | inr t =>
          obtain ⟨i2, l2, k2⟩ := t
          rw [w] at pp
          obtain ⟨p1, p2, p3, p4⟩ := pp
          obtain ⟨I2, e2, f2, c2⟩ := t2 i2 l2 k2 w
          obtain ⟨I3, e3, c3, gg3⟩ := e17 (J := J) (x := x) c2 (by omega)
          have f3 : pm_CF c L i2 I3 := CF_ag f2 (ag_cell gg3 (by decide) (by intro f; simp)) (ag_cell gg3 (by decide) (by intro f; simp))
          have q := lx_q p4 (show 8 ≤ x ∧ x < 14 by rw [hx]; split <;> omega) hh (by omega)
          have qh := q.2.2.2
          rw [e2, zt_bind]
          dsimp only
          rw [e3, zt_bind]
          dsimp only
          exact ih o i2 (l2 + 1) (pm_cup k2 l2 x) (y + 1) fu (dep + 1) (by omega) (by omega) (by rw [qh]; omega) ⟨g1, p1, by omega, by omega, by rw [qh]; omega⟩ (by omega) (by omega) I3 J f3 c3
      by_cases z : c i = 43
      · rw [decide_eq_true ⟨s.1, z⟩, if_pos rfl, if_pos rfl]
        exact fin 8 (by rw [if_pos z])
      · rw [decide_eq_false (show ¬ (i < L ∧ c i = 43) from fun q => z q.2), decide_eq_true (show i < L ∧ c i = 45 from ⟨s.1, by omega⟩), if_neg (show ¬ false = true by decide), if_pos (show true = true from rfl), if_neg (show ¬ false = true by decide)]
        exact fin 9 (by rw [if_neg z])
    · rw [if_neg s, decide_eq_false (show ¬ (i < L ∧ c i = 43) by omega), decide_eq_false (show ¬ (i < L ∧ c i = 45) by omega)]
      simp only [Bool.false_eq_true, if_false, ite_self]
      refine ⟨fun q p w => (by cases w), fun i' l' k' w => ?_⟩
      cases w
      exact ⟨I, rfl, h, hk⟩
theorem lv_c0 {c : Nat → Nat} {L n : Nat} {U : Nat → Nat → Nat → (Nat → Nat) → (Nat × Nat) ⊕ (Nat × Nat × (Nat → Nat))} (hL : L ≤ 150) (hP : pm_GP L n 1 U) (hU : pm_GC c L n 1 U 1 2 6) : pm_GC c L n 2 (pm_lvl c L U 43 45 8 9) 0 3 7 := by
  intro o i l k hg fu dep hf hd I J h hk
  obtain ⟨fu, rfl⟩ : ∃ q, fu = q + 1 := ⟨fu - 1, by omega⟩
  obtain ⟨dep, rfl⟩ : ∃ q, dep = q + 1 := ⟨dep - 1, by omega⟩
  obtain ⟨g1, g2, g3, g4, g5⟩ := id hg
  have hgi : pm_hG L n 1 o i l k := ⟨g1, g2, g3, g4, by omega⟩
  have pp := hP o i l k hgi
  obtain ⟨t1, t2⟩ := hU o i l k hgi fu dep (by omega) (by omega) I J h hk
  dsimp only at t1 t2
  dsimp only
  rw [g21]
  unfold pm_lvl
  cases w : U o i l k with
  | inl f =>
    obtain ⟨q, p⟩ := f
    obtain ⟨I2, e2, x2⟩ := t1 q p w
    obtain ⟨fv, rfl⟩ : ∃ q, fu = q + 1 := ⟨fu - 1, by omega⟩
    rw [e2, zt_bind]
    dsimp only
    rw [x21_l x2 (by omega)]
    refine ⟨fun q p w => ?_, fun i' l' k' w => (by cases w)⟩
    cases w
    exact ⟨I2, rfl, x2⟩
  | inr t =>
    obtain ⟨i1, l1, k1⟩ := t
    rw [w] at pp
    obtain ⟨p1, p2, p3, p4⟩ := pp
    have ph := p4.2.2.2
    obtain ⟨I2, e2, f2, c2⟩ := t2 i1 l1 k1 w
    rw [e2, zt_bind]
    dsimp only
    have r := pl_c3 hL hP hU L o i1 l1 k1 0 fu (dep + 1) (by omega) (by omega) (by omega) ⟨g1, p1, by omega, by omega, by omega⟩ (by omega) (by omega) I2 J f2 c2
    dsimp only at r
    rw [nI_0] at r
    exact r
