/-! BEST: the units, the class -/
def pm_ash (w : Nat → Int32) (p : Nat) : Bool := decide (w p = nI 1)
/-- the first kinsman ashore -/
def pm_fko (D : Nat → Nat → Nat) (w : Nat → Int32) (p : Nat) : Nat → Nat → Option Nat
  | 0, _ => none
  | d + 1, o => if (pm_kP D p o && pm_ash w o) = true then some o else pm_fko D w p d (o + 1)
/-- the units of the first p, and how many -/
def pm_ut (D : Nat → Nat → Nat) (w : Nat → Int32) : Nat → (Nat → Nat) × Nat
  | 0 => (fun _ => 9, 0)
  | p + 1 => if pm_ash w p = true then (match pm_fko D w p p 0 with
      | some o => (fun q => if q = p then (pm_ut D w p).1 o else (pm_ut D w p).1 q, (pm_ut D w p).2)
      | none => (fun q => if q = p then (pm_ut D w p).2 else (pm_ut D w p).1 q, (pm_ut D w p).2 + 1)) else pm_ut D w p
theorem fk_s {D : Nat → Nat → Nat} {w : Nat → Int32} {p : Nat} : ∀ d o q, pm_fko D w p d o = some q → o ≤ q ∧ q < o + d ∧ pm_kP D p q = true ∧ pm_ash w q = true
  | 0, o, q, h => by cases h
  | d + 1, o, q, h => by
    rw [pm_fko] at h
    by_cases c : (pm_kP D p o && pm_ash w o) = true
    · rw [if_pos c] at h
      cases h
      rw [Bool.and_eq_true] at c
      exact ⟨Nat.le_refl _, by omega, c.1, c.2⟩
    · rw [if_neg c] at h
      obtain ⟨h1, h2, h3⟩ := fk_s d (o + 1) q h
      exact ⟨by omega, by omega, h3⟩
theorem fk_n {D : Nat → Nat → Nat} {w : Nat → Int32} {p : Nat} : ∀ d o, pm_fko D w p d o = none → ∀ q, o ≤ q → q < o + d → pm_ash w q = true → pm_kP D p q = false
  | 0, o, _, q, h1, h2, _ => by omega
  | d + 1, o, h, q, h1, h2, h3 => by
    rw [pm_fko] at h
    by_cases c : (pm_kP D p o && pm_ash w o) = true
    · rw [if_pos c] at h
      cases h
    · rw [if_neg c] at h
      by_cases e : q = o
      · subst e
        rw [h3, Bool.and_true] at c
        exact Bool.eq_false_iff.mpr c
      · exact fk_n d (o + 1) h q (by omega) (by omega) h3
theorem ut_lt {D : Nat → Nat → Nat} {w : Nat → Int32} : ∀ p, (pm_ut D w p).2 ≤ p ∧ ∀ q, q < p → pm_ash w q = true → (pm_ut D w p).1 q < (pm_ut D w p).2
  | 0 => ⟨Nat.le_refl _, fun q hq => by omega⟩
  | p + 1 => by
    obtain ⟨h1, h2⟩ := ut_lt (D := D) (w := w) p
    rw [pm_ut]
    by_cases c : pm_ash w p = true
    · rw [if_pos c]
      cases e : pm_fko D w p p 0 with
      | some o =>
        obtain ⟨_, o2, _, o4⟩ := fk_s p 0 o e
        refine ⟨by dsimp only; omega, fun q hq ha => ?_⟩
        dsimp only
        by_cases z : q = p
        · rw [if_pos z]; exact h2 o (by omega) o4
        · rw [if_neg z]; exact h2 q (by omega) ha
      | none =>
        refine ⟨by dsimp only; omega, fun q hq ha => ?_⟩
        dsimp only
        by_cases z : q = p
        · rw [if_pos z]; omega
        · rw [if_neg z]
          have := h2 q (by omega) ha
          omega
    · rw [if_neg c]
      refine ⟨by omega, fun q hq ha => ?_⟩
      by_cases z : q = p
      · rw [z] at ha; exact absurd ha c
      · exact h2 q (by omega) ha
theorem ut_st {D : Nat → Nat → Nat} {w : Nat → Int32} {q : Nat} : ∀ p, q < p → (pm_ut D w (p + 1)).1 q = (pm_ut D w p).1 q := by
  intro p h
  rw [pm_ut]
  by_cases c : pm_ash w p = true
  · rw [if_pos c]
    cases e : pm_fko D w p p 0 with
    | some o => exact if_neg (by omega)
    | none => exact if_neg (by omega)
  · rw [if_neg c]
/-- how many are of a unit; what it is given -/
def pm_uz (D : Nat → Nat → Nat) (w : Nat → Int32) (p u : Nat) : Nat := pm_cnt (fun q => pm_ash w q && decide ((pm_ut D w p).1 q = u)) p
def pm_ug (D : Nat → Nat → Nat) (w : Nat → Int32) (g : Nat → Nat → Nat) (p u b : Nat) : Nat := pm_su (fun q => if (pm_ash w q && decide ((pm_ut D w p).1 q = u)) = true then g q b else 0) p
theorem uz_s {D : Nat → Nat → Nat} {w : Nat → Int32} {p u : Nat} : pm_uz D w (p + 1) u = pm_uz D w p u + (if (pm_ash w p && decide ((pm_ut D w (p + 1)).1 p = u)) = true then 1 else 0) := by
  unfold pm_uz
  rw [pm_cnt, cn_cong (P := fun q => pm_ash w q && decide ((pm_ut D w (p + 1)).1 q = u)) (Q := fun q => pm_ash w q && decide ((pm_ut D w p).1 q = u)) (fun i hi => by rw [ut_st p hi])]
theorem ug_s {D : Nat → Nat → Nat} {w : Nat → Int32} {g : Nat → Nat → Nat} {p u b : Nat} : pm_ug D w g (p + 1) u b = pm_ug D w g p u b + (if (pm_ash w p && decide ((pm_ut D w (p + 1)).1 p = u)) = true then g p b else 0) := by
  unfold pm_ug
  rw [pm_su, su_cong (f := fun q => if (pm_ash w q && decide ((pm_ut D w (p + 1)).1 q = u)) = true then g q b else 0) (g := fun q => if (pm_ash w q && decide ((pm_ut D w p).1 q = u)) = true then g q b else 0) (fun i hi => by rw [ut_st p hi])]
theorem oW_n {l n p : Nat} {k : Nat → Nat} {D : Nat → Nat → Nat} {w : Nat → Int32} (hi : pm_inv n w) (hp : p < n) : ∃ s, s ≤ 999 ∧ pm_oW l k D n w p = nI s := by
  obtain ⟨wk, st, h1, h2, h3, h4, h5⟩ := hi
  obtain ⟨_, ⟨s2, a2, b2⟩, _⟩ := h5 p hp
  unfold pm_oW
  by_cases c : w p = nI 3
  · exact ⟨0, by omega, by rw [if_pos c]⟩
  · obtain ⟨a, ha, e⟩ := av_nI l k (pm_ppr D n w p (nI (D 1 p)) (w (24 + p)))
    have e' : pm_aS l k D n w p = nI a := e
    exact ⟨a - s2, by omega, by rw [if_neg c, e', b2, maxs (by omega) (by omega)]⟩
/-- what one gives, as a number -/
def pm_gN (l : Nat) (k : Nat → Nat) (D : Nat → Nat → Nat) (n : Nat) (w : Nat → Int32) (p b : Nat) : Nat := (pm_gv D (pm_oW l k D n w p) b p).toNatClampNeg
theorem gN_n {l n t p b : Nat} {k : Nat → Nat} {D : Nat → Nat → Nat} {w : Nat → Int32} (hi : pm_inv n w) (hD : pm_DR n t D) (hp : p < n) (hb : b < t) : pm_gv D (pm_oW l k D n w p) b p = nI (pm_gN l k D n w p b) ∧ pm_gN l k D n w p b ≤ 775 := by
  obtain ⟨s, hs, e⟩ := oW_n (l := l) (k := k) (D := D) hi hp
  have d6 := (hD.2.1 b hb).2.1
  have m : D 6 b * s ≤ 40 * 999 := Nat.mul_le_mul d6 hs
  unfold pm_gN pm_gv
  rw [e, pk_mul, pk_div (by omega) (by omega) (by omega), pk_div (by omega) (by omega) (by omega)]
  by_cases c : D 2 p = D 5 b
  · rw [if_pos c, nI_clamp (by omega)]
    exact ⟨rfl, by omega⟩
  · rw [if_neg c, nI_clamp (by omega)]
    exact ⟨rfl, by omega⟩
