/-! THE BOOK: the class reads it -/
def pm_bks (c : Nat → Nat) (L : Nat) : Nat → Nat → Nat → (Nat → Nat) → (Nat → Nat) → (Nat × Nat) ⊕ (Nat × (Nat → Nat) × (Nat → Nat))
  | 0, _, m, X, Y => .inr (m, X, Y)
  | d + 1, i, m, X, Y => if i < L then (match pm_bln c L X m i with
      | .inl f => .inl f
      | .inr (v, y, n) => pm_bks c L d n (m + 1) (fun j => if j = m then v else X j) (fun j => if j = m then y else Y j)) else .inr (m, X, Y)
theorem bln_b {c : Nat → Nat} {L m i v y n : Nat} {X : Nat → Nat} (h : pm_bln c L X m i = .inr (v, y, n)) : n ≤ L := by
  unfold pm_bln at h
  split at h
  · cases h
  · split at h
    · cases h
    · split at h
      · cases h
      · split at h
        · cases h
        · split at h
          · rename_i w
            cases h
            have := sk_b c (L - (pm_nxt c L (pm_nxt c L i) + 1)) (pm_nxt c L (pm_nxt c L i) + 1)
            omega
          · cases h
section Bq
variable {I : Nat → Nat → Int32} {J : Nat → Nat → Int64} {k : Nat}
theorem v131f {c : Nat → Nat} {L i : Nat} (h : pm_CF c L i I) : v131 I = decide (i < L) := by
  have k3 := h.2.1.1
  have kc := kd_c c L i
  unfold v131
  by_cases b : i < L
  · have k1 : pm_kd c L i ≠ 1 := by
      unfold pm_kd
      rw [if_pos b]
      split
      · decide
      · split <;> decide
    rw [k3, if_neg (by rw [zt_lit 1, zt_eq (by omega) (by omega)]; exact k1), if_neg (by rw [← nI_0, zt_eq (by omega) (by omega)]; omega), decide_eq_true b]
  · have k1 : pm_kd c L i = 1 := by unfold pm_kd; rw [if_neg b]
    rw [k3, k1, if_pos (by rfl), decide_eq_false b]
theorem v131x {q p : Nat} (h : pm_CX q p I) : v131 I = false := by
  unfold v131
  rw [h.1]
  rfl
end Bq
