/-! BEST: the most that units can give, by rooms -/
def pm_mx (f : Nat → Int) (ok : Nat → Bool) : Nat → Int → Int
  | 0, v => v
  | b + 1, v => if ok b = true then (if pm_mx f ok b v < f b then f b else pm_mx f ok b v) else pm_mx f ok b v
def pm_sbc (x : Nat → Nat) (b s : Nat) : Nat → Nat := fun q => if q = b then x q - s else x q
/-- what the units from u on give at most: sums by 2^24, less the way's number -/
def pm_Vb (t : Nat) (sz : Nat → Nat) (gn : Nat → Nat → Nat) : Nat → Nat → (Nat → Nat) → Int
  | 0, _, _ => 0
  | k + 1, u, x => pm_mx (fun b => pm_Vb t sz gn k (u + 1) (pm_sbc x b (sz u)) + (gn u b : Int) * 16777216 - (((b + 1) * 8 ^ (7 - u) : Nat) : Int)) (fun b => decide (sz u ≤ x b)) t (pm_Vb t sz gn k (u + 1) x)
def pm_szs (sz : Nat → Nat) (u : Nat) : Nat → Nat
  | 0 => 0
  | k + 1 => sz u + pm_szs sz (u + 1) k
theorem mx_c {f g : Nat → Int} {p q : Nat → Bool} {v w : Int} : ∀ t, (∀ b, b < t → p b = q b ∧ (q b = true → f b = g b)) → v = w → pm_mx f p t v = pm_mx g q t w
  | 0, _, h => h
  | t + 1, hb, h => by
    have ih := mx_c t (fun b hb2 => hb b (by omega)) h
    obtain ⟨e1, e2⟩ := hb t (by omega)
    rw [pm_mx, pm_mx, ih, e1]
    by_cases c : q t = true
    · rw [if_pos c, if_pos c, e2 c]
    · rw [if_neg c, if_neg c]
theorem mx_ge {f : Nat → Int} {p : Nat → Bool} {v : Int} : ∀ t, v ≤ pm_mx f p t v
  | 0 => Int.le_refl _
  | t + 1 => by
    have ih := mx_ge (f := f) (p := p) (v := v) t
    rw [pm_mx]
    split
    · split <;> omega
    · exact ih
theorem mx_le {f : Nat → Int} {p : Nat → Bool} {v M : Int} : ∀ t, v ≤ M → (∀ b, b < t → p b = true → f b ≤ M) → pm_mx f p t v ≤ M
  | 0, h, _ => h
  | t + 1, h, hb => by
    have ih := mx_le t h (fun b hb2 => hb b (by omega))
    rw [pm_mx]
    split
    · rename_i c
      have := hb t (by omega) c
      split <;> omega
    · exact ih
theorem Vb_0 (t : Nat) (sz : Nat → Nat) (gn : Nat → Nat → Nat) : ∀ k u x, 0 ≤ pm_Vb t sz gn k u x
  | 0, _, _ => Int.le_refl _
  | k + 1, u, x => by
    rw [pm_Vb]
    exact Int.le_trans (Vb_0 t sz gn k (u + 1) x) (mx_ge t)
theorem Vb_u {t : Nat} {sz : Nat → Nat} {gn : Nat → Nat → Nat} (hg : ∀ u b, b < t → gn u b ≤ 6200) : ∀ k u x, pm_Vb t sz gn k u x ≤ (k : Int) * 104019787776
  | 0, _, _ => by show (0 : Int) ≤ _; omega
  | k + 1, u, x => by
    rw [pm_Vb]
    refine mx_le t ?_ (fun b hb _ => ?_)
    · have := Vb_u (sz := sz) hg k (u + 1) x
      omega
    · have h1 := Vb_u (sz := sz) hg k (u + 1) (pm_sbc x b (sz u))
      have h2 := hg u b hb
      omega
/-- rooms that are too many count alike -/
theorem Vb_c {t : Nat} {sz : Nat → Nat} {gn : Nat → Nat → Nat} : ∀ k u x y, (∀ b, b < t → x b = y b ∨ (pm_szs sz u k ≤ x b ∧ pm_szs sz u k ≤ y b)) → pm_Vb t sz gn k u x = pm_Vb t sz gn k u y := by
  intro k
  induction k with
  | zero => intro u x y _; rfl
  | succ k ih =>
    intro u x y h
    rw [pm_Vb, pm_Vb]
    refine mx_c t (fun b hb => ?_) (ih (u + 1) x y (fun b hb => ?_))
    · have hb' := h b hb
      rw [pm_szs] at hb'
      refine ⟨?_, fun z => ?_⟩
      · by_cases q : sz u ≤ y b
        · rw [decide_eq_true q, decide_eq_true (by omega)]
        · rw [decide_eq_false q, decide_eq_false (by omega)]
      · have z' := of_decide_eq_true z
        rw [ih (u + 1) (pm_sbc x b (sz u)) (pm_sbc y b (sz u)) (fun q hq => ?_)]
        have hq' := h q hq
        rw [pm_szs] at hq'
        unfold pm_sbc
        by_cases e : q = b
        · rw [if_pos e, if_pos e, e]
          rw [e] at hq'
          omega
        · rw [if_neg e, if_neg e]
          omega
    · have hb' := h b hb
      rw [pm_szs] at hb'
      omega
/-- rooms as a number -/
def pm_wt (c : Nat → Nat) : Nat → Nat
  | 0 => 1
  | b + 1 => pm_wt c b * (c b + 1)
def pm_vx (c x : Nat → Nat) : Nat → Nat
  | 0 => 0
  | b + 1 => pm_vx c x b + x b * pm_wt c b
def pm_us (c x : Nat → Nat) : Nat → Nat
  | 0 => 0
  | b + 1 => pm_us c x b + (c b - x b)
theorem wt_p (c : Nat → Nat) : ∀ t, 0 < pm_wt c t
  | 0 => Nat.one_pos
  | t + 1 => by
    rw [pm_wt]
    exact Nat.mul_pos (wt_p c t) (by omega)
theorem vx_lt {c x : Nat → Nat} : ∀ t, (∀ b, b < t → x b ≤ c b) → pm_vx c x t < pm_wt c t
  | 0, _ => Nat.one_pos
  | t + 1, h => by
    have ih := vx_lt t (fun b hb => h b (by omega))
    have hx := h t (by omega)
    have hm : x t * pm_wt c t ≤ c t * pm_wt c t := Nat.mul_le_mul_right _ hx
    have e : pm_wt c t * (c t + 1) = c t * pm_wt c t + pm_wt c t := by rw [Nat.mul_add, Nat.mul_one, Nat.mul_comm]
    rw [pm_vx, pm_wt, e]
    omega
theorem vx_cg {c x y : Nat → Nat} : ∀ t, (∀ b, b < t → x b = y b) → pm_vx c x t = pm_vx c y t
  | 0, _ => rfl
  | t + 1, h => by rw [pm_vx, pm_vx, vx_cg t (fun b hb => h b (by omega)), h t (by omega)]
theorem us_c {c x y : Nat → Nat} : ∀ t, (∀ b, b < t → x b = y b) → pm_us c x t = pm_us c y t
  | 0, _ => rfl
  | t + 1, h => by rw [pm_us, pm_us, us_c t (fun b hb => h b (by omega)), h t (by omega)]
theorem mul_un {w a b p q : Nat} (hp : p < w) (hq : q < w) (h : p + a * w = q + b * w) : a = b ∧ p = q := by
  have e : a = b := by
    rcases Nat.lt_trichotomy a b with z | z | z
    · have : (a + 1) * w ≤ b * w := Nat.mul_le_mul_right _ z
      rw [Nat.add_mul] at this
      omega
    · exact z
    · have : (b + 1) * w ≤ a * w := Nat.mul_le_mul_right _ z
      rw [Nat.add_mul] at this
      omega
  subst e
  exact ⟨rfl, by omega⟩
theorem vx_inj {c x y : Nat → Nat} : ∀ t, (∀ b, b < t → x b ≤ c b) → (∀ b, b < t → y b ≤ c b) → pm_vx c x t = pm_vx c y t → ∀ b, b < t → x b = y b
  | 0, _, _, _ => fun b hb => by omega
  | t + 1, hx, hy, h => by
    rw [pm_vx, pm_vx] at h
    obtain ⟨e1, e2⟩ := mul_un (vx_lt t (fun b hb => hx b (by omega))) (vx_lt t (fun b hb => hy b (by omega))) h
    have ih := vx_inj t (fun b hb => hx b (by omega)) (fun b hb => hy b (by omega)) e2
    intro b hb
    by_cases q : b = t
    · rw [q]; exact e1
    · exact ih b (by omega)
theorem vx_sb {c x : Nat → Nat} {b s : Nat} (hs : s ≤ x b) : ∀ t, (b < t → pm_vx c x t = pm_vx c (pm_sbc x b s) t + s * pm_wt c b) ∧ (t ≤ b → pm_vx c x t = pm_vx c (pm_sbc x b s) t)
  | 0 => ⟨fun h => by omega, fun _ => rfl⟩
  | t + 1 => by
    obtain ⟨i1, i2⟩ := vx_sb (c := c) hs t
    rw [pm_vx, pm_vx]
    refine ⟨fun h => ?_, fun h => ?_⟩
    · by_cases q : b = t
      · subst q
        have e : pm_sbc x b s b = x b - s := if_pos rfl
        have m : x b * pm_wt c b = (x b - s) * pm_wt c b + s * pm_wt c b := by rw [← Nat.add_mul]; congr 1; omega
        rw [e, ← i2 (Nat.le_refl _), m]
        omega
      · have e : pm_sbc x b s t = x t := if_neg (fun z => q z.symm)
        have := i1 (by omega)
        rw [e]
        omega
    · have e : pm_sbc x b s t = x t := if_neg (by omega)
      rw [e, i2 (by omega)]
theorem us_sb {c x : Nat → Nat} {b s : Nat} (hs : s ≤ x b) (hc : x b ≤ c b) : ∀ t, (b < t → pm_us c (pm_sbc x b s) t = pm_us c x t + s) ∧ (t ≤ b → pm_us c (pm_sbc x b s) t = pm_us c x t)
  | 0 => ⟨fun h => by omega, fun _ => rfl⟩
  | t + 1 => by
    obtain ⟨i1, i2⟩ := us_sb hs hc t
    rw [pm_us, pm_us]
    refine ⟨fun h => ?_, fun h => ?_⟩
    · by_cases q : b = t
      · subst q
        have e : pm_sbc x b s b = x b - s := if_pos rfl
        rw [e, i2 (Nat.le_refl _)]
        omega
      · have e : pm_sbc x b s t = x t := if_neg (fun z => q z.symm)
        have := i1 (by omega)
        rw [e]
        omega
    · have e : pm_sbc x b s t = x t := if_neg (by omega)
      rw [e, i2 (by omega)]
/-- one room less -/
def pm_dn (c x : Nat → Nat) (q : Nat) : Nat → Nat := fun b => if b < q then c b else if b = q then x b - 1 else x b
theorem vx_full (c : Nat → Nat) : ∀ t, pm_vx c c t + 1 = pm_wt c t
  | 0 => rfl
  | t + 1 => by
    have ih := vx_full c t
    rw [pm_vx, pm_wt, Nat.mul_add, Nat.mul_one, Nat.mul_comm (pm_wt c t)]
    omega
theorem vx_0 {c x : Nat → Nat} : ∀ t, (∀ b, b < t → x b = 0) → pm_vx c x t = 0
  | 0, _ => rfl
  | t + 1, h => by rw [pm_vx, vx_0 t (fun b hb => h b (by omega)), h t (by omega), Nat.zero_mul]
theorem vx_dn {c x : Nat → Nat} {q : Nat} (h0 : ∀ b, b < q → x b = 0) (hq : 0 < x q) : ∀ t, q < t → pm_vx c (pm_dn c x q) t + 1 = pm_vx c x t := by
  intro t
  induction t with
  | zero => intro h; omega
  | succ t ih =>
    intro h
    rw [pm_vx, pm_vx]
    by_cases e : q = t
    · subst e
      have e1 : pm_vx c (pm_dn c x q) q = pm_vx c c q := vx_cg q (fun b hb => if_pos hb)
      have e2 : pm_dn c x q q = x q - 1 := by unfold pm_dn; rw [if_neg (by omega), if_pos rfl]
      have e3 := vx_full c q
      have m : x q * pm_wt c q = (x q - 1) * pm_wt c q + pm_wt c q := by
        obtain ⟨z, hz⟩ : ∃ z, x q = z + 1 := ⟨x q - 1, by omega⟩
        rw [hz, Nat.add_sub_cancel, Nat.add_mul, Nat.one_mul]
      rw [e1, e2, vx_0 q h0, m]
      omega
    · have e2 : pm_dn c x q t = x t := by unfold pm_dn; rw [if_neg (by omega), if_neg (by omega)]
      have := ih (by omega)
      rw [e2]
      omega
