/-! THE BOOK: the class's loop -/
section Br
variable {J : Nat → Nat → Int64} {k : Nat}
theorem l10 {c : Nat → Nat} {L : Nat} : ∀ d i m fu : Nat, ∀ (X Y : Nat → Nat) (I : Nat → Nat → Int32), m + d = 9 → d < fu → i ≤ L → pm_CF c L i I → pm_BK k m X Y I → (∀ q p, pm_bks c L d i m X Y = .inl (q, p) → ∃ I', f10_7 k fu (nI m) I J = some ((), I', J) ∧ pm_CX q p I') ∧ (∀ m' X' Y', pm_bks c L d i m X Y = .inr (m', X', Y') → ∃ I' i', f10_7 k fu (nI m) I J = some ((), I', J) ∧ pm_CF c L i' I' ∧ pm_BK k m' X' Y' I') := by
  have i8 : ((8 : Int32)).toInt = 8 := by decide
  intro d
  induction d with
  | zero =>
    intro i m fu X Y I hm hf hi h hB
    have := hB.2.1
    omega
  | succ d ih =>
    intro i m fu X Y I hm hf hi h hB
    obtain ⟨fu, rfl⟩ : ∃ k, fu = k + 1 := ⟨fu - 1, by omega⟩
    have m8 := hB.2.1
    rw [pm_bks, f10_7, i8, nI_toInt (by omega), if_neg (show ¬ (8 : Int) < (m : Nat) by omega), v131f h, nI_1]
    by_cases b : i < L
    · rw [if_pos b, decide_eq_true b, if_pos rfl]
      obtain ⟨g1, g2⟩ := e11 (J := J) h hi hB
      cases w : pm_bln c L X m i with
      | inl f =>
        obtain ⟨q, p⟩ := f
        obtain ⟨I1, e1, x1⟩ := g1 q p w
        have st : f10_7 k fu (nI (m + 1)) I1 J = some ((), I1, J) := by
          obtain ⟨fv, rfl⟩ : ∃ k, fu = k + 1 := ⟨fu - 1, by omega⟩
          rw [f10_7, v131x x1]
          split
          · rfl
          · rw [if_neg (by decide)]
        rw [e1, zt_bind]
        dsimp only
        rw [st]
        refine ⟨fun q' p' z => ?_, fun m' X' Y' z => (by cases z)⟩
        cases z
        exact ⟨I1, rfl, x1⟩
      | inr t =>
        obtain ⟨v, y, n⟩ := t
        obtain ⟨I1, e1, f1, b1⟩ := g2 v y n w
        rw [e1, zt_bind]
        dsimp only
        exact ih n (m + 1) fu _ _ I1 (by omega) (by omega) (bln_b w) f1 b1
    · rw [if_neg b, decide_eq_false b, if_neg (by decide)]
      refine ⟨fun q p z => (by cases z), fun m' X' Y' z => ?_⟩
      cases z
      exact ⟨I, i, rfl, h, hB⟩
end Br
