/-! KIN, PAPERS, WHAT IS OWED -/
def pm_msk (P : Nat → Bool) : Nat → Nat
  | 0 => 0
  | i + 1 => pm_msk P i + (if P i = true then 2 ^ i else 0)
theorem msk_lt (P : Nat → Bool) : ∀ i, pm_msk P i < 2 ^ i
  | 0 => by unfold pm_msk; omega
  | i + 1 => by
    have := msk_lt P i
    unfold pm_msk
    rw [Nat.pow_succ]
    split <;> omega
theorem msk_cong {P Q : Nat → Bool} : ∀ {n : Nat}, (∀ i, i < n → P i = Q i) → pm_msk P n = pm_msk Q n
  | 0, _ => rfl
  | n + 1, h => by
    unfold pm_msk
    rw [msk_cong (fun i hi => h i (by omega)), h n (by omega)]
theorem or_bit : ∀ i : Nat, i < 8 → ∀ m : Nat, m < 2 ^ i → nI m ||| ((1 : Int32) <<< (nI i &&& 31)) = nI (m + 2 ^ i) := by decide +kernel
def pm_pc8 (m : Nat) : Nat := m % 2 + m / 2 % 2 + m / 4 % 2 + m / 8 % 2 + m / 16 % 2 + m / 32 % 2 + m / 64 % 2 + m / 128 % 2
theorem pc8_bit : ∀ i : Nat, i < 8 → ∀ m : Nat, m < 2 ^ i → pm_pc8 (m + 2 ^ i) = pm_pc8 m + 1 := by decide +kernel
theorem v365_0 : ∀ m : Nat, m < 256 → v365 (nI m) (fun _ _ => 0) = nI (pm_pc8 m) := by decide +kernel
theorem pc8_msk (P : Nat → Bool) : ∀ n, n ≤ 8 → pm_pc8 (pm_msk P n) = pm_cnt P n
  | 0, _ => by unfold pm_msk pm_cnt; decide
  | n + 1, h => by
    have e := pc8_msk P n (by omega)
    unfold pm_msk pm_cnt
    split
    · rw [pc8_bit n (by omega) _ (msk_lt P n), e]
    · exact e
theorem v365_msk (P : Nat → Bool) {n : Nat} (h : n ≤ 8) (I : Nat → Nat → Int32) : v365 (nI (pm_msk P n)) I = nI (pm_cnt P n) := by
  have h1 := msk_lt P n
  have h2 : 2 ^ n ≤ 2 ^ 8 := Nat.pow_le_pow_right (by decide) h
  have e := v365_0 (pm_msk P n) (by omega)
  rw [pc8_msk P n h] at e
  exact e
/-- the register, as the class and as the reference hold it -/
def pm_CR (r n t : Nat) (D : Nat → Nat → Nat) (I : Nat → Nat → Int32) : Prop := (r = 15 ∨ r = 113) ∧ I r 7 = nI n ∧ I r 8 = nI t ∧ I r 10 = nI (D 8 0) ∧ n ≤ 8 ∧ t ≤ 5 ∧ (∀ p, p < n → I (r + 1) p = nI (D 1 p) ∧ I (r + 2) p = nI (D 2 p) ∧ I (r + 3) p = nI (D 3 p)) ∧ (∀ b, b < t → I (r + 5) b = nI (D 5 b) ∧ I (r + 6) b = nI (D 6 b) ∧ I (r + 7) b = nI (D 7 b))
def pm_MR (n t : Nat) (D : Nat → Nat → Nat) (I : Nat → Nat → Int32) : Prop := I 127 18 = nI n ∧ I 127 19 = nI t ∧ I 127 20 = nI (D 8 0) ∧ n ≤ 8 ∧ t ≤ 5 ∧ (∀ p, p < n → I 132 (4 * p) = nI (D 1 p) ∧ I 132 (4 * p + 1) = nI (D 2 p) ∧ I 132 (4 * p + 2) = nI (D 3 p)) ∧ (∀ b, b < t → I 133 (3 * b) = nI (D 5 b) ∧ I 133 (3 * b + 1) = nI (D 6 b) ∧ I 133 (3 * b + 2) = nI (D 7 b))
def pm_DR (n t : Nat) (D : Nat → Nat → Nat) : Prop := (∀ p, p < n → D 1 p ≤ 9 ∧ D 2 p ≤ 5 ∧ D 3 p ≤ 4) ∧ (∀ b, b < t → D 5 b ≤ 5 ∧ D 6 b ≤ 40 ∧ 1 ≤ D 7 b ∧ D 7 b ≤ 4) ∧ D 8 0 ≤ 20
def pm_kP (D : Nat → Nat → Nat) (p b : Nat) : Bool := decide (b ≠ p) && decide (D 3 p ≠ 0) && decide (D 3 b = D 3 p)
def pm_kin (D : Nat → Nat → Nat) (n p : Nat) : Nat := pm_cnt (pm_kP D p) n
/-- the row of the state, as the reference lays it -/
def pm_ms (n : Nat) (v w : Nat → Int32) : Prop := (∀ i, i < 48 → v i = w i) ∧ (∀ p, p < 8 → v (48 + p) = w (56 + p) ∧ (p < n → v (56 + p) = w (48 + p))) ∧ v 64 = w 64 ∧ v 65 = w 65
/-- what a paper says -/
def pm_ppr (D : Nat → Nat → Nat) (n : Nat) (w : Nat → Int32) (p : Nat) (y a : Int32) : Nat → Int32
  | 0 => y
  | 1 => a
  | 2 => nI (D 2 p)
  | 3 => w (32 + p)
  | 4 => nI (pm_kin D n p)
  | 5 => w (40 + p)
  | 6 => if w (56 + p) = pm_m1 then w 64 else w (56 + p)
  | 7 => w 64
  | _ => 0
theorem va_upup {α : Type} {I : Nat → α} {a : Nat} {S T : α} : va_up (va_up I a S) a T = va_up I a T := by
  funext b
  unfold va_up
  split <;> rfl
theorem w_va {I : Nat → Nat → Int32} {a f : Nat} {x : Int32} : pm_w I a f x = va_up I a (upd (I a) f x) := rfl
section P
variable {I : Nat → Nat → Int32} {J : Nat → Nat → Int64}
theorem l84 {r n t p : Nat} {D : Nat → Nat → Nat} (hR : pm_CR r n t D I) (hD : pm_DR n t D) (hp : p < n) : ∀ d i fu : Nat, i + d = n → d < fu → f84_14 r fu (nI p) (nI (D 3 p)) (nI (pm_msk (pm_kP D p) i)) (nI i) I J = some (nI (pm_msk (pm_kP D p) n), I, J) := by
  obtain ⟨hr, hn, ht, hv, h8, h5, hs, htk⟩ := hR
  intro d
  induction d with
  | zero =>
    intro i fu hi hf
    obtain ⟨fu, rfl⟩ : ∃ k, fu = k + 1 := ⟨fu - 1, by omega⟩
    rw [f84_14, hn, if_neg (by rw [nI_toInt (by omega), nI_toInt (by omega)]; omega), show i = n by omega]
  | succ d ih =>
    intro i fu hi hf
    obtain ⟨fu, rfl⟩ : ∃ k, fu = k + 1 := ⟨fu - 1, by omega⟩
    have s := ih (i + 1) fu (by omega) (by omega)
    have hb := msk_lt (pm_kP D p) i
    have hi3 := (hs i (by omega)).2.2
    have d1 := (hD.1 p hp).2.2
    have d2 := (hD.1 i (by omega)).2.2
    have ho := or_bit i (by omega) _ hb
    rw [f84_14]
    rw [pm_msk] at s
    by_cases c1 : D 3 p = 0
    · have e : pm_kP D p i = false := by unfold pm_kP; simp [c1]
      simp (disch := omega) only [hn, zt_lit, zt_lt, zt_eq, if_pos, nI_add]
      simpa [e] using s
    · by_cases c2 : i = p
      · have e : pm_kP D p i = false := by unfold pm_kP; simp [c2]
        simp (disch := omega) only [hn, zt_lit, zt_lt, zt_eq, if_pos, if_neg, nI_add]
        simpa [e] using s
      · by_cases c3 : D 3 i = D 3 p
        · have e : pm_kP D p i = true := by unfold pm_kP; simp [c1, c2, c3]
          rw [hn, if_pos (by rw [nI_toInt (by omega), nI_toInt (by omega)]; omega), zt_lit 0, if_neg (by rw [zt_eq (by omega) (by omega)]; omega), if_neg (by rw [zt_eq (by omega) (by omega)]; omega), zt_at (by omega) (by omega), hi3, if_pos (by rw [c3]), ho, nI_1]
          simpa [e] using s
        · have e : pm_kP D p i = false := by unfold pm_kP; simp [c3]
          simp (disch := omega) only [hn, zt_lit, zt_lt, zt_eq, if_pos, if_neg, nI_add, zt_at, hi3]
          simpa [e] using s
theorem e84 {r n t p : Nat} {D : Nat → Nat → Nat} (hR : pm_CR r n t D I) (hD : pm_DR n t D) (hp : p < n) : f84 r (nI p) I J = some (nI (pm_msk (pm_kP D p) n), I, J) := by
  have h := l84 (J := J) hR hD hp n 0 pm_FU (by omega) (by have := hR.2.2.2.2.1; unfold pm_FU; omega)
  obtain ⟨hr, hn, ht, hv, h8, h5, hs, htk⟩ := hR
  unfold f84
  rw [zt_at (by omega) (by omega), (hs p hp).2.2]
  exact h
theorem CR_cell {I' : Nat → Nat → Int32} {r n t : Nat} {D : Nat → Nat → Nat} (hR : pm_CR r n t D I) (h : ∀ j, j < 8 → I' (r + j) = I (r + j)) : pm_CR r n t D I' := by
  obtain ⟨hr, hn, ht, hv, h8, h5, hs, htk⟩ := hR
  have h0 := h 0 (by omega)
  rw [Nat.add_zero] at h0
  refine ⟨hr, by rw [h0]; exact hn, by rw [h0]; exact ht, by rw [h0]; exact hv, h8, h5, fun p hp => ?_, fun b hb => ?_⟩
  · rw [h 1 (by omega), h 2 (by omega), h 3 (by omega)]; exact hs p hp
  · rw [h 5 (by omega), h 6 (by omega), h 7 (by omega)]; exact htk b hb
theorem CR_up {a : Nat} {S : Nat → Int32} {r n t : Nat} {D : Nat → Nat → Nat} (hR : pm_CR r n t D I) (h : a < 13) : pm_CR r n t D (va_up I a S) := CR_cell hR (fun j hj => va_up_ne I S (by have := hR.1; omega))
theorem e32 {r n t p : Nat} {D : Nat → Nat → Nat} (hR : pm_CR r n t D I) (hD : pm_DR n t D) (hp : p < n) : ∃ S : Nat → Int32, f32 r (nI p) I J = some ((), va_up I 12 S, J) ∧ ∀ j, j < 8 → S j = pm_ppr D n (I 5) p (nI (D 1 p)) (I 5 (24 + p)) j := by
  have hR' := hR
  obtain ⟨hr, hn, ht, hv, h8, h5, hs, htk⟩ := hR
  have x1 := (hs p hp).1
  have x2 := (hs p hp).2.1
  have hk := fun S => e84 (J := J) (CR_up (a := 12) (S := S) hR' (by omega)) hD hp
  have kb := v365_msk (pm_kP D p) h8
  by_cases c : I 5 (56 + p) = pm_m1
  · unfold f32
    simp (disch := omega) only [zt_lit, zt_m1, zt_sg, zt_at, zt_pw, x1, x2, pm_lt, w_va, va_upup, va_up_self, va_up_ne, hk, zt_bind, kb, v107, Nat.reduceMul, c, if_true]
    refine ⟨_, rfl, ?_⟩
    · intro j hj
      have q : j = 0 ∨ j = 1 ∨ j = 2 ∨ j = 3 ∨ j = 4 ∨ j = 5 ∨ j = 6 ∨ j = 7 := by omega
      rcases q with rfl | rfl | rfl | rfl | rfl | rfl | rfl | rfl <;> simp [upd, pm_ppr, pm_kin, c]
  · unfold f32
    simp (disch := omega) only [zt_lit, zt_m1, zt_sg, zt_at, zt_pw, x1, x2, pm_lt, w_va, va_upup, va_up_self, va_up_ne, hk, zt_bind, kb, v107, Nat.reduceMul, c, if_false]
    refine ⟨_, rfl, ?_⟩
    · intro j hj
      have q : j = 0 ∨ j = 1 ∨ j = 2 ∨ j = 3 ∨ j = 4 ∨ j = 5 ∨ j = 6 ∨ j = 7 := by omega
      rcases q with rfl | rfl | rfl | rfl | rfl | rfl | rfl | rfl <;> simp [upd, pm_ppr, pm_kin, c]
end P
