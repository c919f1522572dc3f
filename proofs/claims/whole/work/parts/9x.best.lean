/-! BEST: the best way itself -/
def pm_cb (a b : Option (Nat × (Nat → Nat))) : Option (Nat × (Nat → Nat)) := match a, b with
  | none, o => o
  | some x, none => some x
  | some x, some y => if x.1 < y.1 then some y else some x
def pm_fo (F : Nat → Option (Nat × (Nat → Nat))) : Nat → Option (Nat × (Nat → Nat)) → Option (Nat × (Nat → Nat))
  | 0, s => s
  | b + 1, s => pm_cb (pm_fo F b s) (F b)
def pm_stn (w : Nat → Nat) (u e : Nat) : Nat → Nat := fun q => if q = u then e else w q
def pm_ad (g : Nat) (o : Option (Nat × (Nat → Nat))) : Option (Nat × (Nat → Nat)) := match o with
  | none => none
  | some x => some (x.1 + g, x.2)
def pm_asd (g u e : Nat) (o : Option (Nat × (Nat → Nat))) : Option (Nat × (Nat → Nat)) := match o with
  | none => none
  | some x => some (x.1 + g, pm_stn x.2 u e)
/-- the best way of the units from u on: what it gives, and the digits -/
def pm_Bw (t : Nat) (sz : Nat → Nat) (gn : Nat → Nat → Nat) : Nat → Nat → (Nat → Nat) → Option (Nat × (Nat → Nat))
  | 0, _, _ => some (0, fun _ => 0)
  | k + 1, u, x => pm_fo (fun b => if sz u ≤ x b then pm_asd (gn u b) u (b + 1) (pm_Bw t sz gn k (u + 1) (pm_sbc x b (sz u))) else none) t (pm_asd 0 u 0 (pm_Bw t sz gn k (u + 1) x))
def pm_cdn (w : Nat → Nat) : Nat → Nat → Nat
  | 0, _ => 0
  | k + 1, u => w u * 8 ^ (7 - u) + pm_cdn w k (u + 1)
theorem cdn_c {w v : Nat → Nat} : ∀ k u, (∀ q, u ≤ q → q < u + k → w q = v q) → pm_cdn w k u = pm_cdn v k u
  | 0, _, _ => rfl
  | k + 1, u, h => by
    rw [pm_cdn, pm_cdn, h u (by omega) (by omega), cdn_c k (u + 1) (fun q h1 h2 => h q (by omega) (by omega))]
theorem cdn_lt {w : Nat → Nat} (h5 : ∀ v, w v ≤ 5) : ∀ k u, u + k ≤ 8 → pm_cdn w k u < 8 ^ (8 - u)
  | 0, u, _ => Nat.pow_pos (by decide)
  | k + 1, u, h => by
    have ih := cdn_lt h5 k (u + 1) (by omega)
    have e : 8 - u = (7 - u) + 1 := by omega
    have e2 : 8 - (u + 1) = 7 - u := by omega
    have m : w u * 8 ^ (7 - u) ≤ 5 * 8 ^ (7 - u) := Nat.mul_le_mul_right _ (h5 u)
    rw [e2] at ih
    rw [pm_cdn, e, Nat.pow_succ]
    omega
theorem cdn_d {w : Nat → Nat} (h5 : ∀ v, w v ≤ 5) : ∀ k u v, u + k ≤ 8 → u ≤ v → v < u + k → pm_cdn w k u / 8 ^ (7 - v) % 8 = w v
  | 0, u, v, _, _, _ => by omega
  | k + 1, u, v, h, h1, h2 => by
    have lt := cdn_lt h5 k (u + 1) (by omega)
    rw [show 8 - (u + 1) = 7 - u by omega] at lt
    have w5 := h5 u
    rw [pm_cdn]
    by_cases e : v = u
    · subst e
      rw [Nat.mul_comm, Nat.mul_add_div (Nat.pow_pos (by decide)), Nat.div_eq_of_lt lt]
      omega
    · have ih := cdn_d h5 k (u + 1) v (by omega) (by omega) (by omega)
      have e1 : 8 ^ (7 - u) = 8 ^ (7 - v) * (8 * 8 ^ (v - u - 1)) := by
        rw [← Nat.mul_assoc, ← Nat.pow_succ, ← Nat.pow_add]
        congr 1
        omega
      have e2 : w u * 8 ^ (7 - u) = 8 ^ (7 - v) * (8 * (w u * 8 ^ (v - u - 1))) := by
        rw [e1, Nat.mul_left_comm, Nat.mul_left_comm (w u)]
      rw [e2, Nat.mul_add_div (Nat.pow_pos (by decide)), Nat.mul_add_mod]
      exact ih
theorem Bw_V {t : Nat} {sz : Nat → Nat} {gn : Nat → Nat → Nat} (t5 : t ≤ 5) : ∀ k u x, u + k ≤ 8 → ∃ (T : Nat) (w : Nat → Nat), pm_Bw t sz gn k u x = some (T, w) ∧ pm_Vb t sz gn k u x = (T : Int) * 16777216 - (pm_cdn w k u : Int) ∧ ∀ v, w v ≤ t := by
  intro k
  induction k with
  | zero => exact fun u x _ => ⟨0, fun _ => 0, rfl, rfl, fun _ => Nat.zero_le _⟩
  | succ k ih =>
    intro u x hk
    have P : 8 ^ (8 - u) = 8 * 8 ^ (7 - u) := by rw [show 8 - u = (7 - u) + 1 by omega, Nat.pow_succ, Nat.mul_comm]
    have PM : 8 ^ (8 - u) ≤ 16777216 := by
      have : 8 ^ (8 - u) ≤ 8 ^ 8 := Nat.pow_le_pow_right (by decide) (by omega)
      exact this
    have st : ∀ (w : Nat → Nat) e, pm_cdn (pm_stn w u e) (k + 1) u = e * 8 ^ (7 - u) + pm_cdn w k (u + 1) := fun w e => by
      rw [pm_cdn, cdn_c (w := pm_stn w u e) (v := w) k (u + 1) (fun q h1 h2 => if_neg (by omega))]
      rw [show pm_stn w u e u = e from if_pos rfl]
    have go : ∀ b, b ≤ t → ∃ (T : Nat) (w : Nat → Nat), pm_fo (fun b => if sz u ≤ x b then pm_asd (gn u b) u (b + 1) (pm_Bw t sz gn k (u + 1) (pm_sbc x b (sz u))) else none) b (pm_asd 0 u 0 (pm_Bw t sz gn k (u + 1) x)) = some (T, w) ∧ pm_mx (fun b => pm_Vb t sz gn k (u + 1) (pm_sbc x b (sz u)) + (gn u b : Int) * 16777216 - (((b + 1) * 8 ^ (7 - u) : Nat) : Int)) (fun b => decide (sz u ≤ x b)) b (pm_Vb t sz gn k (u + 1) x) = (T : Int) * 16777216 - (pm_cdn w (k + 1) u : Int) ∧ w u ≤ b ∧ ∀ v, w v ≤ t := by
      intro b
      induction b with
      | zero =>
        intro _
        obtain ⟨T, w, h1, h2, h3⟩ := ih (u + 1) x (by omega)
        refine ⟨T + 0, pm_stn w u 0, by rw [pm_fo, h1]; rfl, ?_, by rw [show pm_stn w u 0 u = 0 from if_pos rfl]; omega, fun v => ?_⟩
        · rw [pm_mx, st, h2, Nat.zero_mul, Nat.zero_add]
          rfl
        · unfold pm_stn
          split
          · omega
          · exact h3 v
      | succ b ihb =>
        intro hb
        obtain ⟨T, w, h1, h2, h3, h4⟩ := ihb (by omega)
        rw [pm_fo, pm_mx, h1, h2]
        by_cases c : sz u ≤ x b
        · obtain ⟨T', w', k1, k2, k3⟩ := ih (u + 1) (pm_sbc x b (sz u)) (by omega)
          have l1 := cdn_lt (w := w) (fun v => by have := h4 v; omega) k (u + 1) (by omega)
          have l2 := cdn_lt (w := w') (fun v => by have := k3 v; omega) k (u + 1) (by omega)
          rw [show 8 - (u + 1) = 7 - u by omega] at l1 l2
          have m : w u * 8 ^ (7 - u) ≤ b * 8 ^ (7 - u) := Nat.mul_le_mul_right _ h3
          have m2 : (b + 1) * 8 ^ (7 - u) ≤ 5 * 8 ^ (7 - u) := Nat.mul_le_mul_right _ (by omega)
          have m3 : (b + 1) * 8 ^ (7 - u) = b * 8 ^ (7 - u) + 8 ^ (7 - u) := by rw [Nat.add_mul, Nat.one_mul]
          have cw : pm_cdn w (k + 1) u = w u * 8 ^ (7 - u) + pm_cdn w k (u + 1) := rfl
          rw [if_pos (decide_eq_true c), if_pos c, k1, k2]
          show ∃ (T_1 : Nat) (w_1 : Nat → Nat), (if T < T' + gn u b then some (T' + gn u b, pm_stn w' u (b + 1)) else some (T, w)) = some (T_1, w_1) ∧ _
          by_cases q : T < T' + gn u b
          · refine ⟨T' + gn u b, pm_stn w' u (b + 1), by rw [if_pos q], ?_, by rw [show pm_stn w' u (b + 1) u = b + 1 from if_pos rfl]; omega, fun v => ?_⟩
            · rw [if_pos (by omega), st]
              omega
            · unfold pm_stn
              split
              · omega
              · exact k3 v
          · refine ⟨T, w, by rw [if_neg q], ?_, by omega, h4⟩
            rw [if_neg (by omega)]
        · rw [if_neg c, if_neg (by rw [decide_eq_false c]; decide)]
          exact ⟨T, w, rfl, rfl, by omega, h4⟩
    obtain ⟨T, w, h1, h2, _, h4⟩ := go t (Nat.le_refl _)
    exact ⟨T, w, h1, h2, h4⟩
