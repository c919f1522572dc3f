/-! THE BOOK: a line, the class -/
def pm_nxt (c : Nat → Nat) (L i : Nat) : Nat := pm_sk c (L - pm_stp c L i) (pm_stp c L i)
def pm_nv (c : Nat → Nat) (L i : Nat) : Nat := pm_nmv c L (L - i) i 0
def pm_bln (c : Nat → Nat) (L : Nat) (X : Nat → Nat) (m i : Nat) : (Nat × Nat) ⊕ (Nat × Nat × Nat) :=
  if pm_nk c L 0 499 i ≠ 0 then .inl (pm_nk c L 0 499 i, i)
  else if pm_tol X (pm_nv c L i) 0 m = true then .inl (2, i)
  else if m = 8 then .inl (3, i)
  else if pm_nk c L 0 999 (pm_nxt c L i) ≠ 0 then .inl (pm_nk c L 0 999 (pm_nxt c L i), pm_nxt c L i)
  else if pm_nxt c L (pm_nxt c L i) < L ∧ c (pm_nxt c L (pm_nxt c L i)) = 59 then .inr (pm_nv c L i, pm_nv c L (pm_nxt c L i), pm_sk c (L - (pm_nxt c L (pm_nxt c L i) + 1)) (pm_nxt c L (pm_nxt c L i) + 1))
  else .inl (1, pm_nxt c L (pm_nxt c L i))
section Bo
variable {I : Nat → Nat → Int32} {J : Nat → Nat → Int64} {k : Nat}
theorem CF_w {c : Nat → Nat} {L i a f : Nat} {x : Int32} (h : pm_CF c L i I) (ha : 2 < a) : pm_CF c L i (pm_w I a f x) := by
  unfold pm_CF pm_CT pm_CP
  rw [zt_wc (by omega), zt_wc (by omega)]
  exact h
theorem CX_w {q p a f : Nat} {x : Int32} (h : pm_CX q p I) (ha : 2 < a) : pm_CX q p (pm_w I a f x) := by
  unfold pm_CX
  rw [zt_wc (by omega)]
  exact h
theorem nk_0 {c : Nat → Nat} {L lo hi i : Nat} (h : pm_nk c L lo hi i = 0) : pm_kd c L i = 2 ∧ lo ≤ pm_nv c L i ∧ pm_nv c L i ≤ hi := by
  unfold pm_nk at h
  unfold pm_nv
  by_cases a : pm_kd c L i = 2
  · rw [if_pos a] at h
    by_cases b : pm_nmv c L (L - i) i 0 < lo
    · rw [if_pos b] at h; omega
    · rw [if_neg b] at h
      by_cases d : hi < pm_nmv c L (L - i) i 0
      · rw [if_pos d] at h; omega
      · exact ⟨a, by omega, by omega⟩
  · rw [if_neg a] at h
    omega
theorem nx_b {c : Nat → Nat} {L i : Nat} (hi : i ≤ L) : pm_nxt c L i ≤ L := by
  unfold pm_nxt
  have h1 := stp_b (c := c) hi
  have h2 := sk_b c (L - pm_stp c L i) (pm_stp c L i)
  omega
theorem vl_n {c : Nat → Nat} {L i : Nat} (h : pm_kd c L i = 2) (h2 : pm_nv c L i ≤ 999) : pm_vl c L i = pm_nv c L i := by
  unfold pm_vl
  rw [if_pos h]
  exact Nat.min_eq_right (by unfold pm_nv at h2; omega)
end Bo
