/-! WORK: how steps told run -/
/-- row, begun, done, refused -/
def pm_it (F : (Nat → Int32) × Nat × Nat × Nat → (Nat → Int32) × Nat × Nat × Nat) : Nat → (Nat → Int32) × Nat × Nat × Nat → (Nat → Int32) × Nat × Nat × Nat
  | 0, s => s
  | c + 1, s => if s.2.1 < 200 then pm_it F c (F s) else s
def pm_xp (G : Nat → (Nat → Int32) → Bool × (Nat → Int32)) (K B E : Nat → Nat) : Nat → Nat → Nat → (Nat → Int32) × Nat × Nat × Nat → (Nat → Int32) × Nat × Nat × Nat
  | 0, _, _, s => s
  | d + 1, i, e, s => if i < e ∧ s.2.1 < 200 then (if K i = 8 then pm_xp G K B E d (E i) e (pm_it (pm_xp G K B E d (i + 1) (E i)) (B i) (s.1, s.2.1 + 1, s.2.2.1, s.2.2.2)) else pm_xp G K B E d (E i) e ((G i s.1).2, s.2.1 + 1, (if (G i s.1).1 = true then s.2.2.1 + 1 else s.2.2.1), (if (G i s.1).1 = true then s.2.2.2 else s.2.2.2 + 1))) else s
/-- steps well told from i to e, o deep -/
def pm_wpg (n t : Nat) (K A B E : Nat → Nat) : Nat → Nat → Nat → Nat → Prop
  | 0, _, i, e => e ≤ i
  | d + 1, o, i, e => i < e → ((K i = 8 → o < 6 ∧ i < E i ∧ E i ≤ e ∧ B i ≤ 60 ∧ pm_wpg n t K A B E d (o + 1) (i + 1) (E i) ∧ pm_wpg n t K A B E d o (E i) e) ∧ (K i ≠ 8 → E i = i + 1 ∧ pm_sk2 n t (K i) (A i) (B i) ∧ pm_wpg n t K A B E d o (i + 1) e))
/-- what a state must be -/
def pm_sO (n : Nat) (s : (Nat → Int32) × Nat × Nat × Nat) : Prop := pm_inv n s.1 ∧ s.2.1 ≤ 200 ∧ s.2.2.1 ≤ s.2.1 ∧ s.2.2.2 ≤ s.2.1
section Ga
variable {n t l0 : Nat} {k0 : Nat → Nat} {D : Nat → Nat → Nat} {K A B E : Nat → Nat}
theorem sO_1 {s : (Nat → Int32) × Nat × Nat × Nat} (h : pm_sO n s) (h2 : s.2.1 < 200) : pm_sO n (s.1, s.2.1 + 1, s.2.2.1, s.2.2.2) := by
  obtain ⟨a, b, c, d⟩ := h
  exact ⟨a, by show s.2.1 + 1 ≤ 200; omega, by show s.2.2.1 ≤ s.2.1 + 1; omega, by show s.2.2.2 ≤ s.2.1 + 1; omega⟩
theorem sO_g {s : (Nat → Int32) × Nat × Nat × Nat} {i : Nat} (h8 : n ≤ 8) (h : pm_sO n s) (h2 : s.2.1 < 200) (hs : pm_sk2 n t (K i) (A i) (B i)) : pm_sO n ((pm_go l0 k0 D n (K i) (A i) (B i) s.1).2, s.2.1 + 1, (if (pm_go l0 k0 D n (K i) (A i) (B i) s.1).1 = true then s.2.2.1 + 1 else s.2.2.1), (if (pm_go l0 k0 D n (K i) (A i) (B i) s.1).1 = true then s.2.2.2 else s.2.2.2 + 1)) := by
  obtain ⟨a, b, c, d⟩ := h
  refine ⟨inv_go h8 a hs, ?_, ?_, ?_⟩
  · show s.2.1 + 1 ≤ 200
    omega
  · dsimp only
    split <;> omega
  · dsimp only
    split <;> omega
theorem sO_it {F : (Nat → Int32) × Nat × Nat × Nat → (Nat → Int32) × Nat × Nat × Nat} (hF : ∀ s, pm_sO n s → pm_sO n (F s)) : ∀ c s, pm_sO n s → pm_sO n (pm_it F c s)
  | 0, s, h => h
  | c + 1, s, h => by
    rw [pm_it]
    split
    · exact sO_it hF c _ (hF s h)
    · exact h
theorem sO_xp (h8 : n ≤ 8) : ∀ d o i e s, pm_wpg n t K A B E d o i e → pm_sO n s → pm_sO n (pm_xp (fun i w => pm_go l0 k0 D n (K i) (A i) (B i) w) K B E d i e s) := by
  intro d
  induction d with
  | zero => intro o i e s _ h; exact h
  | succ d ih =>
    intro o i e s hw h
    rw [pm_xp]
    by_cases c : i < e ∧ s.2.1 < 200
    · rw [if_pos c]
      rw [pm_wpg] at hw
      obtain ⟨w1, w2⟩ := hw c.1
      by_cases k : K i = 8
      · obtain ⟨p1, p2, p3, p4, p5, p6⟩ := w1 k
        rw [if_pos k]
        exact ih o (E i) e _ p6 (sO_it (fun s hs => ih (o + 1) (i + 1) (E i) s p5 hs) (B i) _ (sO_1 h c.2))
      · obtain ⟨p1, p2, p3⟩ := w2 k
        rw [if_neg k]
        refine ih o (E i) e _ ?_ (sO_g (t := t) h8 h c.2 p2)
        rw [p1]
        exact p3
    · rw [if_neg c]
      exact h
end Ga
/-- the class's steps; the reference's -/
def pm_CS (m : Nat) (K A B E : Nat → Nat) (I : Nat → Nat → Int32) : Prop := ∀ j, j < m → I 98 j = nI (K j) ∧ (1 ≤ K j → K j ≤ 6 → I 99 j = nI (A j)) ∧ ((K j = 1 ∨ K j = 2 ∨ K j = 8) → I 100 j = nI (B j)) ∧ I 101 j = nI (E j)
def pm_Ms (a m : Nat) (K A B E : Nat → Nat) (I : Nat → Nat → Int32) : Prop := ∀ j, j < m → I a (3 * j) = nI (K j) ∧ I a (3 * j + 1) = nI (if K j = 8 then B j else A j) ∧ I a (3 * j + 2) = nI (if K j = 8 then 3 * E j else B j)
/-- the state, in the class and in the reference -/
def pm_Cs (s : (Nat → Int32) × Nat × Nat × Nat) (I : Nat → Nat → Int32) : Prop := I 5 = s.1 ∧ I 97 5 = nI s.2.1 ∧ I 97 6 = nI s.2.2.1 ∧ I 97 7 = nI s.2.2.2
def pm_Mst (n : Nat) (s : (Nat → Int32) × Nat × Nat × Nat) (I : Nat → Nat → Int32) : Prop := pm_ms n (I 144) s.1 ∧ I 127 34 = nI s.2.1 ∧ I 127 35 = nI s.2.2.1 ∧ I 127 36 = nI s.2.2.2 ∧ I 127 40 = nI 0
