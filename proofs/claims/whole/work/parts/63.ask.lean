/-! ASK: numbers -/
def pm_tol (X : Nat → Nat) (w : Nat) : Nat → Nat → Bool
  | _, 0 => false
  | i, d + 1 => decide (X i = w) || pm_tol X w (i + 1) d
theorem cn_full {P : Nat → Bool} : ∀ {n : Nat}, (∀ i, i < n → P i = true) → pm_cnt P n = n
  | 0, _ => rfl
  | n + 1, h => by
    unfold pm_cnt
    rw [cn_full (fun i hi => h i (by omega)), if_pos (h n (by omega))]
theorem cn_orl (P Q : Nat → Bool) : ∀ n, pm_cnt (fun i => P i || Q i) n ≤ pm_cnt P n + pm_cnt Q n
  | 0 => Nat.le_refl _
  | n + 1 => by
    have := cn_orl P Q n
    unfold pm_cnt
    cases hp : P n <;> cases hq : Q n <;> simp <;> omega
theorem cn_is (x : Nat) : ∀ n, pm_cnt (fun w => decide (x = w)) n ≤ (if x < n then 1 else 0)
  | 0 => by unfold pm_cnt; simp
  | n + 1 => by
    have := cn_is x n
    unfold pm_cnt
    by_cases c : x = n
    · rw [if_pos (by simp [c]), if_pos (by omega)]
      rw [if_neg (by omega)] at this
      omega
    · rw [if_neg (by simp [c])]
      by_cases c2 : x < n
      · rw [if_pos c2] at this
        rw [if_pos (by omega)]
        omega
      · rw [if_neg c2] at this
        rw [if_neg (by omega)]
        omega
theorem tl_cn (X : Nat → Nat) (n : Nat) : ∀ d i, pm_cnt (fun w => pm_tol X w i d) n ≤ d
  | 0, i => Nat.le_of_eq (cn_none (P := fun w => pm_tol X w i 0) (fun _ _ => rfl))
  | d + 1, i => by
    have h1 := tl_cn X n d (i + 1)
    have h2 := cn_orl (fun w => decide (X i = w)) (fun w => pm_tol X w (i + 1) d) n
    have h3 := cn_is (X i) n
    have h4 : (if X i < n then 1 else 0) ≤ 1 := by split <;> omega
    have e : pm_cnt (fun w => pm_tol X w i (d + 1)) n = pm_cnt (fun w => decide (X i = w) || pm_tol X w (i + 1) d) n := cn_cong (fun _ _ => rfl)
    rw [e]
    omega
theorem tl_ex (X : Nat → Nat) {b : Nat} (hb : b ≤ 8) : ∃ w, w < 500 ∧ pm_tol X w 0 b = false := by
  refine Classical.byContradiction (fun h => ?_)
  have h1 := tl_cn X 500 b 0
  rw [cn_full (fun i hi => by
    cases c : pm_tol X i 0 b
    · exact absurd ⟨i, hi, c⟩ h
    · rfl)] at h1
  omega
def pm_Gd (A : Nat → Nat) (F : Nat → Bool) (w d i : Nat) : Nat := pm_cnt (fun j => F j && decide (A j - w = d)) i
def pm_Hs (A : Nat → Nat) (F : Nat → Bool) (a : Nat) : Nat := pm_cnt (fun j => F j && decide (A j = a)) 225
def pm_Mo (A : Nat → Nat) (F : Nat → Bool) (d : Nat) : Nat := pm_cnt (fun j => F j && decide (d ≤ A j)) 225
def pm_mU (H : Nat → Nat) : Nat → Nat
  | 0 => 0
  | e + 1 => Nat.max (pm_mU H e) (H (999 - e))
def pm_Vw (A : Nat → Nat) (F : Nat → Bool) (w : Nat) : Nat := Nat.max (pm_mU (pm_Hs A F) (999 - w)) (pm_cnt F 225 - pm_Mo A F (w + 1))
def pm_Mx (A : Nat → Nat) (F : Nat → Bool) (w : Nat) : Nat → Nat
  | 0 => 0
  | i + 1 => if F i = true then Nat.max (pm_Mx A F w i) (pm_Gd A F w (A i - w) (i + 1)) else pm_Mx A F w i
theorem mU_s (H : Nat → Nat) : ∀ e, e ≤ 1000 → (∀ a, 1000 ≤ a + e → a < 1000 → H a ≤ pm_mU H e) ∧ (pm_mU H e = 0 ∨ ∃ a, 1000 ≤ a + e ∧ a < 1000 ∧ pm_mU H e = H a)
  | 0, _ => ⟨fun a h1 h2 => by omega, Or.inl rfl⟩
  | e + 1, h => by
    obtain ⟨h1, h2⟩ := mU_s H e (by omega)
    have l1 : pm_mU H e ≤ pm_mU H (e + 1) := Nat.le_max_left _ _
    have l2 : H (999 - e) ≤ pm_mU H (e + 1) := Nat.le_max_right _ _
    refine ⟨fun a a1 a2 => ?_, ?_⟩
    · by_cases c : a = 999 - e
      · subst c; exact l2
      · exact Nat.le_trans (h1 a (by omega) a2) l1
    · have c : pm_mU H (e + 1) = pm_mU H e ∨ pm_mU H (e + 1) = H (999 - e) := by
        show Nat.max _ _ = _ ∨ Nat.max _ _ = _
        rcases Nat.le_total (pm_mU H e) (H (999 - e)) with q | q
        · exact Or.inr (Nat.max_eq_right q)
        · exact Or.inl (Nat.max_eq_left q)
      rcases c with c | c
      · rw [c]
        rcases h2 with h2 | ⟨a, a1, a2, a3⟩
        · exact Or.inl h2
        · exact Or.inr ⟨a, by omega, a2, a3⟩
      · exact Or.inr ⟨999 - e, by omega, by omega, c⟩
theorem Gd_le (A : Nat → Nat) (F : Nat → Bool) (w d i : Nat) : pm_Gd A F w d i ≤ pm_Gd A F w d (i + 1) := cn_mono _ (by omega)
theorem Mx_s (A : Nat → Nat) (F : Nat → Bool) (w : Nat) : ∀ i, (∀ d, pm_Gd A F w d i ≤ pm_Mx A F w i) ∧ (pm_Mx A F w i = 0 ∨ ∃ d, pm_Mx A F w i = pm_Gd A F w d i)
  | 0 => ⟨fun d => Nat.le_refl _, Or.inl rfl⟩
  | i + 1 => by
    obtain ⟨h1, h2⟩ := Mx_s A F w i
    by_cases c : F i = true
    · have e : pm_Mx A F w (i + 1) = Nat.max (pm_Mx A F w i) (pm_Gd A F w (A i - w) (i + 1)) := by rw [pm_Mx, if_pos c]
      have l1 : pm_Mx A F w i ≤ pm_Mx A F w (i + 1) := by rw [e]; exact Nat.le_max_left _ _
      have l2 : pm_Gd A F w (A i - w) (i + 1) ≤ pm_Mx A F w (i + 1) := by rw [e]; exact Nat.le_max_right _ _
      have up : ∀ d, pm_Gd A F w d (i + 1) ≤ pm_Mx A F w (i + 1) := by
        intro d
        by_cases q : A i - w = d
        · rw [← q]; exact l2
        · have e2 : pm_Gd A F w d (i + 1) = pm_Gd A F w d i := by
            unfold pm_Gd
            conv => lhs; unfold pm_cnt
            rw [if_neg (by simp [q]), Nat.add_zero]
          rw [e2]
          exact Nat.le_trans (h1 d) l1
      refine ⟨up, ?_⟩
      rcases Nat.le_total (pm_Mx A F w i) (pm_Gd A F w (A i - w) (i + 1)) with q | q
      · exact Or.inr ⟨A i - w, by rw [e]; exact Nat.max_eq_right q⟩
      · have e2 : pm_Mx A F w (i + 1) = pm_Mx A F w i := by rw [e]; exact Nat.max_eq_left q
        rcases h2 with h2 | ⟨d, h2⟩
        · exact Or.inl (by rw [e2]; exact h2)
        · refine Or.inr ⟨d, Nat.le_antisymm ?_ (up d)⟩
          rw [e2, h2]
          exact Gd_le A F w d i
    · have e : pm_Mx A F w (i + 1) = pm_Mx A F w i := by rw [pm_Mx, if_neg c]
      have e2 : ∀ d, pm_Gd A F w d (i + 1) = pm_Gd A F w d i := by
        intro d
        unfold pm_Gd
        conv => lhs; unfold pm_cnt
        rw [if_neg (by simp [c]), Nat.add_zero]
      rw [e]
      refine ⟨fun d => by rw [e2]; exact h1 d, ?_⟩
      rcases h2 with h2 | ⟨d, h2⟩
      · exact Or.inl h2
      · exact Or.inr ⟨d, by rw [e2]; exact h2⟩
theorem cn_sum (F P Q : Nat → Bool) (h : ∀ j, P j = !Q j) : ∀ n, pm_cnt F n = pm_cnt (fun j => F j && P j) n + pm_cnt (fun j => F j && Q j) n
  | 0 => rfl
  | n + 1 => by
    have e := cn_sum F P Q h n
    have hn := h n
    unfold pm_cnt
    cases hf : F n <;> cases hq : Q n <;> rw [hq] at hn <;> simp [hn] <;> omega
theorem Mo_G (A : Nat → Nat) (F : Nat → Bool) (w : Nat) : pm_cnt F 225 - pm_Mo A F (w + 1) = pm_Gd A F w 0 225 := by
  have e := cn_sum F (fun j => decide (w + 1 ≤ A j)) (fun j => decide (A j - w = 0)) (fun j => by
    by_cases c : w + 1 ≤ A j
    · rw [decide_eq_true c, decide_eq_false (by omega)]; rfl
    · rw [decide_eq_false c, decide_eq_true (by omega)]; rfl) 225
  unfold pm_Mo pm_Gd
  omega
theorem Mo_s (A : Nat → Nat) (F : Nat → Bool) (w : Nat) : pm_Mo A F (w + 1) + pm_Hs A F w = pm_Mo A F w := by
  unfold pm_Mo pm_Hs
  have h : ∀ n, pm_cnt (fun j => F j && decide (w + 1 ≤ A j)) n + pm_cnt (fun j => F j && decide (A j = w)) n = pm_cnt (fun j => F j && decide (w ≤ A j)) n := by
    intro n
    induction n with
    | zero => rfl
    | succ n ih =>
      unfold pm_cnt
      by_cases f : F n = true
      · rcases Nat.lt_trichotomy w (A n) with c | c | c
        · rw [if_pos (by simp [f]; omega), if_neg (by simp; omega), if_pos (by simp [f]; omega)]; omega
        · rw [if_neg (by simp; omega), if_pos (by simp [f]; omega), if_pos (by simp [f]; omega)]; omega
        · rw [if_neg (by simp; omega), if_neg (by simp; omega), if_neg (by simp; omega)]; omega
      · rw [if_neg (by simp [f]), if_neg (by simp [f]), if_neg (by simp [f])]; omega
  exact h 225
theorem V_Mx {A : Nat → Nat} {F : Nat → Bool} (hA : ∀ i, i < 225 → A i ≤ 999) {w : Nat} (hw : w < 500) : pm_Vw A F w = pm_Mx A F w 225 := by
  obtain ⟨u1, u2⟩ := mU_s (pm_Hs A F) (999 - w) (by omega)
  obtain ⟨m1, m2⟩ := Mx_s A F w 225
  have hg : ∀ a, w < a → pm_Hs A F a = pm_Gd A F w (a - w) 225 := by
    intro a ha
    unfold pm_Hs pm_Gd
    refine cn_cong (fun j _ => ?_)
    by_cases c : A j = a
    · rw [decide_eq_true c, decide_eq_true (by omega)]
    · rw [decide_eq_false c, decide_eq_false (by omega)]
  unfold pm_Vw
  rw [Mo_G]
  refine Nat.le_antisymm (Nat.max_le.mpr ⟨?_, m1 0⟩) ?_
  · rcases u2 with u2 | ⟨a, a1, a2, a3⟩
    · rw [u2]; omega
    · rw [a3, hg a (by omega)]
      exact m1 _
  · rcases m2 with m2 | ⟨d, m2⟩
    · rw [m2]; omega
    · rw [m2]
      by_cases c : d = 0
      · subst c
        exact Nat.le_max_right _ _
      · refine Nat.le_trans ?_ (Nat.le_max_left _ _)
        by_cases c2 : d + w < 1000
        · have e := hg (d + w) (by omega)
          rw [show d + w - w = d by omega] at e
          rw [← e]
          exact u1 _ (by omega) c2
        · have e : pm_Gd A F w d 225 = 0 := by
            unfold pm_Gd
            refine cn_none (fun j hj => ?_)
            have := hA j hj
            rw [decide_eq_false (by omega), Bool.and_false]
          rw [e]
          omega
theorem V_le {A : Nat → Nat} {F : Nat → Bool} (hA : ∀ i, i < 225 → A i ≤ 999) {w : Nat} (hw : w < 500) : pm_Vw A F w ≤ pm_cnt F 225 := by
  rw [V_Mx hA hw]
  obtain ⟨m1, m2⟩ := Mx_s A F w 225
  rcases m2 with m2 | ⟨d, m2⟩
  · rw [m2]; omega
  · rw [m2]
    unfold pm_Gd
    have h : ∀ n, pm_cnt (fun j => F j && decide (A j - w = d)) n ≤ pm_cnt F n := by
      intro n
      induction n with
      | zero => exact Nat.le_refl _
      | succ n ih =>
        unfold pm_cnt
        by_cases f : F n = true
        · rw [if_pos f]
          split <;> omega
        · rw [if_neg f, if_neg (by simp [f])]
          omega
    exact h 225
