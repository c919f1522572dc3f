/-! BEST: long numbers -/
def pm_sL (x : Int) : Int64 := Int64.ofInt x
theorem sL_add (a b : Int) : pm_sL a + pm_sL b = pm_sL (a + b) := (Int64.ofInt_add a b).symm
theorem sL_sub (a b : Int) : pm_sL a - pm_sL b = pm_sL (a - b) := (Int64.ofInt_sub a b).symm
theorem sL_i {a : Int} (h1 : -9223372036854775808 ≤ a) (h2 : a < 9223372036854775808) : (pm_sL a).toInt = a := Int64.toInt_ofInt_of_le h1 h2
theorem sL_24' : ∀ a : Nat, a < 80 → ∀ b : Nat, b < 80 → (nI (80 * a + b)).toInt64 <<< ((24 : Int32).toInt64 &&& 63) = pm_sL (((80 * a + b : Nat) : Int) * 16777216) := by decide +kernel
theorem sL_24 {g : Nat} (h : g < 6201) : (nI g).toInt64 <<< ((24 : Int32).toInt64 &&& 63) = pm_sL ((g : Int) * 16777216) := by
  have q := sL_24' (g / 80) (by omega) (g % 80) (by omega)
  rw [show 80 * (g / 80) + g % 80 = g by omega] at q
  exact q
theorem sL_st : ∀ b : Nat, b < 5 → ∀ u : Nat, u < 8 → ((nI b + 1).toInt64) <<< ((3 * (7 - nI u)).toInt64 &&& 63) = pm_sL (((b + 1) * 8 ^ (7 - u) : Nat) : Int) := by decide +kernel
section Ba
variable {I : Nat → Nat → Int32} {J : Nat → Nat → Int64}
/-- the board: takers, sizes, what is given, rooms, their weights -/
def pm_PB (t : Nat) (sz : Nat → Nat) (gn : Nat → Nat → Nat) (c : Nat → Nat) (U : Nat) (I : Nat → Nat → Int32) : Prop := (t ≤ 5 ∧ U ≤ 8 ∧ pm_wt c t ≤ 3125 ∧ ∀ b, b < t → c b ≤ 4) ∧ I 104 8 = nI t ∧ (∀ u, u < U → 1 ≤ sz u ∧ sz u ≤ 8 ∧ I 107 u = nI (sz u)) ∧ (∀ u b, u < U → b < t → gn u b ≤ 6200 ∧ I 108 (5 * u + b) = nI (gn u b)) ∧ ∀ b, b < t → I 109 b = nI (c b) ∧ I 111 b = nI (pm_wt c b)
/-- the rooms left -/
def pm_PL (t : Nat) (c x : Nat → Nat) (I : Nat → Nat → Int32) : Prop := (∀ b, b < t → x b ≤ c b ∧ I 110 b = nI (x b)) ∧ I 104 9 = nI (pm_us c x t)
theorem wt_m (c : Nat → Nat) : ∀ t b, b ≤ t → pm_wt c b ≤ pm_wt c t
  | 0, b, h => by rw [show b = 0 by omega]; exact Nat.le_refl _
  | t + 1, b, h => by
    by_cases e : b = t + 1
    · rw [e]; exact Nat.le_refl _
    · refine Nat.le_trans (wt_m c t b (by omega)) ?_
      rw [pm_wt]
      exact Nat.le_mul_of_pos_right _ (by omega)
theorem e70 {i : Nat} {a : Nat → Int} (h : J 105 i = pm_sL (a i)) (hi : i < 3125) : f70 (nI i) I J = some (pm_sL (a i), I, J) := by
  unfold f70
  rw [nI_toInt (by omega), nI_toInt (by omega), if_neg (by omega), if_pos (by omega), zt_in (by omega) (by omega), zt_gd, nI_clamp (by omega), h]
theorem l69 {t u U : Nat} {sz : Nat → Nat} {gn : Nat → Nat → Nat} {c x : Nat → Nat} {a : Nat → Int} (hB : pm_PB t sz gn c U I) (hL : pm_PL t c x I) (hu : u < U) (ha : ∀ i, i < pm_wt c t → J 105 i = pm_sL (a i) ∧ 0 ≤ a i ∧ a i ≤ 1000000000000000) (v : Int) (hv : 0 ≤ v ∧ v ≤ 1000000000000000) : ∀ d b fu, b + d = t → d < fu → f69_15 fu (nI u) (nI (pm_vx c x t)) (pm_sL (pm_mx (fun b => a (pm_vx c x t - sz u * pm_wt c b) + (gn u b : Int) * 16777216 - (((b + 1) * 8 ^ (7 - u) : Nat) : Int)) (fun b => decide (sz u ≤ x b)) b v)) (3 * (7 - nI u)) (nI b) I J = some (pm_sL (pm_mx (fun b => a (pm_vx c x t - sz u * pm_wt c b) + (gn u b : Int) * 16777216 - (((b + 1) * 8 ^ (7 - u) : Nat) : Int)) (fun b => decide (sz u ≤ x b)) t v), I, J) := by
  obtain ⟨⟨t5, U8, w31, c4⟩, b8, bs, bg, bc⟩ := id hB
  have vlt := vx_lt (c := c) (x := x) t (fun b hb => (hL.1 b hb).1)
  have fb : ∀ b, b < t → a (pm_vx c x t - sz u * pm_wt c b) + (gn u b : Int) * 16777216 - (((b + 1) * 8 ^ (7 - u) : Nat) : Int) ≤ 1000200000000000 ∧ -100000000 ≤ a (pm_vx c x t - sz u * pm_wt c b) + (gn u b : Int) * 16777216 - (((b + 1) * 8 ^ (7 - u) : Nat) : Int) := by
    intro b hb
    obtain ⟨_, q1, q2⟩ := ha (pm_vx c x t - sz u * pm_wt c b) (by omega)
    have g6 := (bg u b hu hb).1
    have p8 : 8 ^ (7 - u) ≤ 8 ^ 7 := Nat.pow_le_pow_right (by omega) (by omega)
    have p9 : (b + 1) * 8 ^ (7 - u) ≤ 5 * 8 ^ 7 := Nat.mul_le_mul (by omega) p8
    have p10 : (8 : Nat) ^ 7 = 2097152 := by decide
    omega
  intro d
  induction d with
  | zero =>
    intro b fu hb hf
    obtain ⟨fu, rfl⟩ : ∃ k, fu = k + 1 := ⟨fu - 1, by omega⟩
    rw [f69_15, b8, if_neg (by rw [nI_toInt (by omega), nI_toInt (by omega)]; omega), show b = t by omega]
  | succ d ih =>
    intro b fu hb hf
    obtain ⟨fu, rfl⟩ : ∃ k, fu = k + 1 := ⟨fu - 1, by omega⟩
    have s := ih (b + 1) fu (by omega) (by omega)
    obtain ⟨x1, x2⟩ := hL.1 b (by omega)
    obtain ⟨s1, s2, s3⟩ := bs u hu
    obtain ⟨g1, g2⟩ := bg u b hu (by omega)
    have c4b := c4 b (by omega)
    have i5 : nI u * 5 + nI b = nI (5 * u + b) := by rw [zt_lit 5, pk_mul, nI_add, Nat.mul_comm]
    rw [f69_15, b8, if_pos (by rw [nI_toInt (by omega), nI_toInt (by omega)]; omega), zt_at (by omega) (by omega), zt_at (by omega) (by omega), x2, s3, nI_toInt (by omega), nI_toInt (by omega), nI_1]
    by_cases q : sz u ≤ x b
    · obtain ⟨v1, _⟩ := vx_sb (c := c) q t
      have v2 := v1 (by omega)
      have wb := wt_m c t b (by omega)
      have mb := mx_ge (f := fun b => a (pm_vx c x t - sz u * pm_wt c b) + (gn u b : Int) * 16777216 - (((b + 1) * 8 ^ (7 - u) : Nat) : Int)) (p := fun b => decide (sz u ≤ x b)) (v := v) b
      have mu := mx_le (f := fun b => a (pm_vx c x t - sz u * pm_wt c b) + (gn u b : Int) * 16777216 - (((b + 1) * 8 ^ (7 - u) : Nat) : Int)) (p := fun b => decide (sz u ≤ x b)) (v := v) (M := 1000200000000000) b (by omega) (fun b' hb' _ => (fb b' (by omega)).1)
      have fbb := fb b (by omega)
      have a108 : pm_at (I 108) 40 (nI (5 * u + b)) = nI (gn u b) := by rw [zt_at (by omega) (by omega)]; exact g2
      have a111 : pm_at (I 111) 5 (nI b) = nI (pm_wt c b) := by rw [zt_at (by omega) (by omega)]; exact (bc b (by omega)).2
      have stp := sL_st b (by omega) u (by omega)
      rw [nI_1] at stp
      rw [if_neg (by omega), pm_lt_eq, i5, a108, a111, sL_24 (by omega), pk_mul, zt_mi (by omega), e70 (ha _ (by omega)).1 (by omega), zt_bind]
      dsimp only
      rw [sL_add, stp, sL_sub]
      have e : v364 (pm_sL (pm_mx (fun b => a (pm_vx c x t - sz u * pm_wt c b) + (gn u b : Int) * 16777216 - (((b + 1) * 8 ^ (7 - u) : Nat) : Int)) (fun b => decide (sz u ≤ x b)) b v)) (pm_sL (a (pm_vx c x t - sz u * pm_wt c b) + (gn u b : Int) * 16777216 - (((b + 1) * 8 ^ (7 - u) : Nat) : Int))) I = pm_sL (pm_mx (fun b => a (pm_vx c x t - sz u * pm_wt c b) + (gn u b : Int) * 16777216 - (((b + 1) * 8 ^ (7 - u) : Nat) : Int)) (fun b => decide (sz u ≤ x b)) (b + 1) v) := by
        unfold v364
        rw [pm_mx, if_pos (decide_eq_true q)]
        by_cases z : pm_mx (fun b => a (pm_vx c x t - sz u * pm_wt c b) + (gn u b : Int) * 16777216 - (((b + 1) * 8 ^ (7 - u) : Nat) : Int)) (fun b => decide (sz u ≤ x b)) b v < a (pm_vx c x t - sz u * pm_wt c b) + (gn u b : Int) * 16777216 - (((b + 1) * 8 ^ (7 - u) : Nat) : Int)
        · rw [if_pos (by rw [cmp_lt, sL_i (by omega) (by omega), sL_i (by omega) (by omega)]; exact z), if_pos z]
        · rw [if_neg (by rw [cmp_lt, sL_i (by omega) (by omega), sL_i (by omega) (by omega)]; exact z), if_neg z]
      rw [e]
      exact s
    · rw [if_pos (by omega)]
      rw [pm_mx, if_neg (by rw [decide_eq_false q]; decide)] at s
      exact s
theorem e69 {t u U : Nat} {sz : Nat → Nat} {gn : Nat → Nat → Nat} {c x : Nat → Nat} {a : Nat → Int} (hB : pm_PB t sz gn c U I) (hL : pm_PL t c x I) (hu : u < U) (ha : ∀ i, i < pm_wt c t → J 105 i = pm_sL (a i) ∧ 0 ≤ a i ∧ a i ≤ 1000000000000000) : f69 (nI u) (nI (pm_vx c x t)) I J = some (pm_sL (pm_mx (fun b => a (pm_vx c x t - sz u * pm_wt c b) + (gn u b : Int) * 16777216 - (((b + 1) * 8 ^ (7 - u) : Nat) : Int)) (fun b => decide (sz u ≤ x b)) t (a (pm_vx c x t))), I, J) := by
  have vlt := vx_lt (c := c) (x := x) t (fun b hb => (hL.1 b hb).1)
  have w31 := hB.1.2.2.1
  have s := l69 (J := J) hB hL hu ha (a (pm_vx c x t)) (ha _ (by omega)).2 t 0 pm_FU (by omega) (by have := hB.1.1; unfold pm_FU; omega)
  rw [nI_0] at s
  unfold f69
  rw [e70 (ha _ (by omega)).1 (by omega), zt_bind]
  exact s
end Ba
