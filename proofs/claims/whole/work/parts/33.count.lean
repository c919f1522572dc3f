/-! COUNTS OVER THE SIGNERS: class and reference -/
section C
variable {I : Nat → Nat → Int32} {J : Nat → Nat → Int64}
theorem l36 {r n : Nat} {x : Int32} (hn : I r 7 = nI n) (h8 : n ≤ 8) : ∀ d i fu : Nat, i + d = n → d < fu → f36_4 r fu x (nI (pm_cnt (fun p => decide (I 5 p = x)) i)) (nI i) I J = some (nI (pm_cnt (fun p => decide (I 5 p = x)) n), I, J) := by
  intro d
  induction d with
  | zero =>
    intro i fu hi hf
    obtain ⟨fu, rfl⟩ : ∃ k, fu = k + 1 := ⟨fu - 1, by omega⟩
    rw [f36_4, hn, if_neg (by rw [nI_toInt (by omega), nI_toInt (by omega)]; omega)]
    rw [show i = n by omega]
  | succ d ih =>
    intro i fu hi hf
    obtain ⟨fu, rfl⟩ : ∃ k, fu = k + 1 := ⟨fu - 1, by omega⟩
    rw [f36_4, hn, if_pos (by rw [nI_toInt (by omega), nI_toInt (by omega)]; omega)]
    have e : v30 (nI i) x I = decide (I 5 i = x) := by
      unfold v30
      rw [zt_lit 0, zt_sg (by omega) (by omega)]
      simp only [Nat.zero_mul, Nat.zero_add]
      split <;> simp [*]
    have s := ih (i + 1) fu (by omega) (by omega)
    rw [pm_cnt] at s
    rw [e, zt_lit 1, nI_add, nI_add]
    by_cases h : I 5 i = x
    · simp only [h, decide_true, if_true] at s ⊢
      exact s
    · simp only [h, decide_false, Nat.add_zero, Bool.false_eq_true, if_false] at s ⊢
      exact s
theorem e36 {r n : Nat} {x : Int32} (hn : I r 7 = nI n) (h8 : n ≤ 8) : f36 r x I J = some (nI (pm_cnt (fun p => decide (I 5 p = x)) n), I, J) := by
  unfold f36
  exact l36 hn h8 n 0 pm_FU (by omega) (by unfold pm_FU; omega)
theorem l42 {r n : Nat} {x : Int32} (hn : I r 7 = nI n) (h8 : n ≤ 8) : ∀ d i fu : Nat, i + d = n → d < fu → f42_4 r fu x (nI (pm_cnt (fun p => decide (I 5 p = nI 2) && decide (I 5 (8 + p) = x)) i)) (nI i) I J = some (nI (pm_cnt (fun p => decide (I 5 p = nI 2) && decide (I 5 (8 + p) = x)) n), I, J) := by
  intro d
  induction d with
  | zero =>
    intro i fu hi hf
    obtain ⟨fu, rfl⟩ : ∃ k, fu = k + 1 := ⟨fu - 1, by omega⟩
    rw [f42_4, hn, if_neg (by rw [nI_toInt (by omega), nI_toInt (by omega)]; omega)]
    rw [show i = n by omega]
  | succ d ih =>
    intro i fu hi hf
    obtain ⟨fu, rfl⟩ : ∃ k, fu = k + 1 := ⟨fu - 1, by omega⟩
    rw [f42_4, hn, if_pos (by rw [nI_toInt (by omega), nI_toInt (by omega)]; omega)]
    have e : v30 (nI i) 2 I = decide (I 5 i = nI 2) := by
      unfold v30
      rw [zt_lit 0, zt_lit 2, zt_sg (by omega) (by omega)]
      simp only [Nat.zero_mul, Nat.zero_add]
      split <;> simp [*]
    have e2 : pm_sget (I 5) 1 (nI i) = I 5 (8 + i) := by rw [zt_lit 1, zt_sg (by omega) (by omega)]
    have s := ih (i + 1) fu (by omega) (by omega)
    rw [pm_cnt] at s
    rw [e, e2, zt_lit 1, nI_add, nI_add]
    by_cases h : I 5 i = nI 2
    · by_cases h2 : I 5 (8 + i) = x
      · simp only [h, h2, decide_true, if_true, Bool.and_self] at s ⊢
        exact s
      · simp only [h, h2, decide_true, decide_false, Nat.add_zero, Bool.false_eq_true, Bool.and_false, if_true, if_false] at s ⊢
        exact s
    · simp only [h, decide_false, Nat.add_zero, Bool.false_eq_true, Bool.false_and, if_false] at s ⊢
      exact s
theorem e42 {r n : Nat} {x : Int32} (hn : I r 7 = nI n) (h8 : n ≤ 8) : f42 r x I J = some (nI (pm_cnt (fun p => decide (I 5 p = nI 2) && decide (I 5 (8 + p) = x)) n), I, J) := by
  unfold f42
  exact l42 hn h8 n 0 pm_FU (by omega) (by unfold pm_FU; omega)
theorem l257 {n : Nat} {x : Int32} (hn : I 127 18 = nI n) (h8 : n ≤ 8) : ∀ d i fu : Nat, i + d = n → d < fu → f257_4 fu x (nI (pm_cnt (fun p => decide (I 144 p = x)) i)) (nI i) I J = some (nI (pm_cnt (fun p => decide (I 144 p = x)) n), I, J) := by
  intro d
  induction d with
  | zero =>
    intro i fu hi hf
    obtain ⟨fu, rfl⟩ : ∃ k, fu = k + 1 := ⟨fu - 1, by omega⟩
    rw [f257_4, hn, if_neg (by rw [nI_toInt (by omega), nI_toInt (by omega)]; omega)]
    rw [show i = n by omega]
  | succ d ih =>
    intro i fu hi hf
    obtain ⟨fu, rfl⟩ : ∃ k, fu = k + 1 := ⟨fu - 1, by omega⟩
    rw [f257_4, hn, if_pos (by rw [nI_toInt (by omega), nI_toInt (by omega)]; omega)]
    have s := ih (i + 1) fu (by omega) (by omega)
    rw [pm_cnt] at s
    rw [zt_lit 0, zt_lit 1, nI_add, nI_add, nI_add, nI_add, Nat.zero_add, zt_in (by omega) (by omega), zt_gd, nI_clamp (by omega)]
    by_cases h : I 144 i = x
    · simp only [h, decide_true, if_true] at s ⊢
      exact s
    · simp only [h, decide_false, Nat.add_zero, Bool.false_eq_true, if_false] at s ⊢
      exact s
theorem e257 {n : Nat} {x : Int32} (hn : I 127 18 = nI n) (h8 : n ≤ 8) : f257 x I J = some (nI (pm_cnt (fun p => decide (I 144 p = x)) n), I, J) := by
  unfold f257
  exact l257 hn h8 n 0 pm_FU (by omega) (by unfold pm_FU; omega)
theorem l259 {n : Nat} {x : Int32} (hn : I 127 18 = nI n) (h8 : n ≤ 8) : ∀ d i fu : Nat, i + d = n → d < fu → f259_4 fu x (nI (pm_cnt (fun p => decide (I 144 p = nI 2) && decide (I 144 (8 + p) = x)) i)) (nI i) I J = some (nI (pm_cnt (fun p => decide (I 144 p = nI 2) && decide (I 144 (8 + p) = x)) n), I, J) := by
  intro d
  induction d with
  | zero =>
    intro i fu hi hf
    obtain ⟨fu, rfl⟩ : ∃ k, fu = k + 1 := ⟨fu - 1, by omega⟩
    rw [f259_4, hn, if_neg (by rw [nI_toInt (by omega), nI_toInt (by omega)]; omega)]
    rw [show i = n by omega]
  | succ d ih =>
    intro i fu hi hf
    obtain ⟨fu, rfl⟩ : ∃ k, fu = k + 1 := ⟨fu - 1, by omega⟩
    rw [f259_4, hn, if_pos (by rw [nI_toInt (by omega), nI_toInt (by omega)]; omega)]
    have s := ih (i + 1) fu (by omega) (by omega)
    rw [pm_cnt] at s
    simp (disch := omega) only [zt_lit, nI_add, Nat.zero_add, zt_in, zt_gd, nI_clamp]
    by_cases h : I 144 i = nI 2
    · by_cases h2 : I 144 (8 + i) = x
      · simp only [h, h2, decide_true, if_true, Bool.and_self] at s ⊢
        exact s
      · simp only [h, h2, decide_true, decide_false, Nat.add_zero, Bool.false_eq_true, Bool.and_false, if_true, if_false] at s ⊢
        exact s
    · simp only [h, decide_false, Nat.add_zero, Bool.false_eq_true, Bool.false_and, if_false] at s ⊢
      exact s
theorem e259 {n : Nat} {x : Int32} (hn : I 127 18 = nI n) (h8 : n ≤ 8) : f259 x I J = some (nI (pm_cnt (fun p => decide (I 144 p = nI 2) && decide (I 144 (8 + p) = x)) n), I, J) := by
  unfold f259
  exact l259 hn h8 n 0 pm_FU (by omega) (by unfold pm_FU; omega)
end C
