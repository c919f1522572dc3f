/-! BIDS -/
def pm_Sh (a b v : Nat) : Int32 := v208 (nI a) (nI b) (nI v) (fun _ _ => 0)
theorem S_lt {a b v : Nat} (h : a < b) (hb : b < 2 ^ 30) : (pm_Sh a b v).toInt = 0 := by
  unfold pm_Sh v208
  rw [if_pos (by rw [nI_toInt (by omega), nI_toInt (by omega)]; omega)]
  decide
theorem S_gt {a b v : Nat} (h : b < a) (ha : a < 2 ^ 30) (hv : v < 2 ^ 30) : (pm_Sh a b v).toInt = (v : Int) - a := by
  unfold pm_Sh v208
  rw [if_neg (by rw [nI_toInt (by omega), nI_toInt (by omega)]; omega), if_pos (by rw [nI_toInt (by omega), nI_toInt (by omega)]; omega), pk_sub_toInt hv ha]
theorem max_i (x y : Int32) : (pm_max x y).toInt = if x.toInt < y.toInt then y.toInt else x.toInt := by
  unfold pm_max
  split <;> rfl
def pm_Bs (n b v : Nat) : Int32 := v209 (nI n) (nI b) (nI v) (fun _ _ => 0)
theorem B_eq {n b v : Nat} (hb : b ≤ n) (hn : n < 2 ^ 20) : pm_Bs n b v = (if 0 < b then (if b < n then pm_max (pm_max (pm_Sh b b v) 0) (pm_Sh (b + 1) b v) else pm_max (pm_Sh b b v) 0) else (if b < n then pm_max (pm_Sh b b v) (pm_Sh (b + 1) b v) else pm_Sh b b v)) := by
  unfold pm_Bs v209 pm_Sh
  rw [nI_toInt (by omega), nI_toInt (by omega), nI_1]
  by_cases c : 0 < b
  · rw [if_pos (by omega), if_pos c]
    by_cases c2 : b < n
    · rw [if_pos (by omega), if_pos c2]
    · rw [if_neg (by omega), if_neg c2]
  · rw [if_neg (by omega), if_neg c]
    by_cases c2 : b < n
    · rw [if_pos (by omega), if_pos c2]
    · rw [if_neg (by omega), if_neg c2]
theorem B_max {n a b v : Nat} (hb : b ≤ n) (hn : n ≤ 20) (hv : v ≤ 99) : ¬ (pm_Sh a b v).toInt < (pm_Bs n b v).toInt ↔ ∀ k, k ≤ n → ¬ (pm_Sh a b v).toInt < (pm_Sh k b v).toInt := by
  have h0 : ((0 : Int32)).toInt = 0 := by decide
  rw [B_eq hb (by omega)]
  constructor
  · intro h k hk
    rcases Nat.lt_trichotomy k b with c | c | c
    · rw [S_lt c (by omega)]
      rw [if_pos (by omega)] at h
      by_cases c2 : b < n
      · rw [if_pos c2, max_i, max_i, h0] at h
        split at h <;> split at h <;> omega
      · rw [if_neg c2, max_i, h0] at h
        split at h <;> omega
    · subst c
      by_cases c1 : 0 < k
      · rw [if_pos c1] at h
        by_cases c2 : k < n
        · rw [if_pos c2, max_i, max_i, h0] at h
          split at h <;> split at h <;> omega
        · rw [if_neg c2, max_i, h0] at h
          split at h <;> omega
      · rw [if_neg c1] at h
        by_cases c2 : k < n
        · rw [if_pos c2, max_i] at h
          split at h <;> omega
        · rw [if_neg c2] at h
          exact h
    · have c2 : b < n := by omega
      rw [S_gt c (by omega) (by omega)]
      by_cases c1 : 0 < b
      · rw [if_pos c1, if_pos c2, max_i, max_i, h0, S_gt (show b < b + 1 by omega) (by omega) (by omega)] at h
        split at h <;> split at h <;> omega
      · rw [if_neg c1, if_pos c2, max_i, S_gt (show b < b + 1 by omega) (by omega) (by omega)] at h
        split at h <;> omega
  · intro h
    have hbb := h b hb
    by_cases c1 : 0 < b
    · have h00 := h 0 (by omega)
      rw [S_lt c1 (by omega)] at h00
      rw [if_pos c1]
      by_cases c2 : b < n
      · have h1 := h (b + 1) (by omega)
        rw [if_pos c2, max_i, max_i, h0]
        split
        · omega
        · split <;> omega
      · rw [if_neg c2, max_i, h0]
        split <;> omega
    · rw [if_neg c1]
      by_cases c2 : b < n
      · have h1 := h (b + 1) (by omega)
        rw [if_pos c2, max_i]
        split <;> omega
      · rw [if_neg c2]
        exact hbb
def pm_Rst (n v w a b : Nat) : Bool := !decide ((pm_Sh a b v).toInt < (pm_Bs n b v).toInt) && !decide ((pm_Sh b a w).toInt < (pm_Bs n a w).toInt)
section Bi
variable {I : Nat → Nat → Int32} {J : Nat → Nat → Int64} {r k : Nat}
theorem S_317 {a b v : Nat} : v317 (nI a) (nI b) (nI v) I = pm_Sh a b v := by
  unfold pm_Sh
  exact e208.symm
theorem l316 {n v w a b : Nat} (hn : n ≤ 20) : ∀ d c fu : Nat, c + d = n + 1 → d < fu → ((∀ j, c ≤ j → j ≤ n → ¬ (pm_Sh a b v).toInt < (pm_Sh j b v).toInt ∧ ¬ (pm_Sh b a w).toInt < (pm_Sh j a w).toInt) → f316_3 fu (nI a) (nI b) (nI n) (nI v) (nI w) (nI c) I J = some (true, I, J)) ∧ ((¬ ∀ j, c ≤ j → j ≤ n → ¬ (pm_Sh a b v).toInt < (pm_Sh j b v).toInt ∧ ¬ (pm_Sh b a w).toInt < (pm_Sh j a w).toInt) → f316_3 fu (nI a) (nI b) (nI n) (nI v) (nI w) (nI c) I J = some (false, I, J)) := by
  intro d
  induction d with
  | zero =>
    intro c fu hc hf
    obtain ⟨fu, rfl⟩ : ∃ k, fu = k + 1 := ⟨fu - 1, by omega⟩
    refine ⟨fun _ => ?_, fun h => absurd (fun j h1 h2 => by omega) h⟩
    rw [f316_3, if_pos (by rw [nI_toInt (by omega), nI_toInt (by omega)]; omega)]
  | succ d ih =>
    intro c fu hc hf
    obtain ⟨fu, rfl⟩ : ∃ k, fu = k + 1 := ⟨fu - 1, by omega⟩
    obtain ⟨s1, s2⟩ := ih (c + 1) fu (by omega) (by omega)
    rw [f316_3, if_neg (by rw [nI_toInt (by omega), nI_toInt (by omega)]; omega), S_317, S_317, S_317, S_317, nI_1]
    by_cases q1 : (pm_Sh a b v).toInt < (pm_Sh c b v).toInt
    · rw [if_pos q1]
      exact ⟨fun h => absurd q1 (h c (by omega) (by omega)).1, fun _ => rfl⟩
    · rw [if_neg q1]
      by_cases q2 : (pm_Sh b a w).toInt < (pm_Sh c a w).toInt
      · rw [if_pos q2]
        exact ⟨fun h => absurd q2 (h c (by omega) (by omega)).2, fun _ => rfl⟩
      · rw [if_neg q2]
        refine ⟨fun h => s1 (fun j h1 h2 => h j (by omega) h2), fun h => s2 (fun h3 => h (fun j h1 h2 => ?_))⟩
        by_cases e : j = c
        · subst e; exact ⟨q1, q2⟩
        · exact h3 j (by omega) h2
theorem e316 {n v w a b : Nat} (hn : n ≤ 20) (hv : v ≤ 99) (hw : w ≤ 99) (ha : a ≤ n) (hb : b ≤ n) : f316 (nI a) (nI b) (nI n) (nI v) (nI w) I J = some (pm_Rst n v w a b, I, J) := by
  obtain ⟨s1, s2⟩ := l316 (I := I) (J := J) (v := v) (w := w) (a := a) (b := b) hn (n + 1) 0 pm_FU (by omega) (by unfold pm_FU; omega)
  rw [nI_0] at s1 s2
  have m1 := B_max (a := a) hb hn hv
  have m2 := B_max (a := b) ha hn hw
  unfold f316
  by_cases c : pm_Rst n v w a b = true
  · rw [c]
    unfold pm_Rst at c
    simp at c
    refine s1 (fun j _ h2 => ⟨m1.mp (by omega) j h2, m2.mp (by omega) j h2⟩)
  · rw [Bool.eq_false_iff.mpr c]
    refine s2 (fun h => c ?_)
    unfold pm_Rst
    rw [decide_eq_false (m1.mpr (fun j hj => (h j (by omega) hj).1)), decide_eq_false (m2.mpr (fun j hj => (h j (by omega) hj).2))]
    rfl
/-- the first that is such -/
def pm_ff (P : Nat → Bool) : Nat → Option Nat
  | 0 => none
  | i + 1 => match pm_ff P i with
    | some j => some j
    | none => if P i = true then some i else none
theorem ff_cnt (P : Nat → Bool) : ∀ i, (pm_ff P i = none ↔ pm_cnt P i = 0)
  | 0 => ⟨fun _ => rfl, fun _ => rfl⟩
  | i + 1 => by
    have a := ff_cnt P i
    unfold pm_ff pm_cnt
    cases q : pm_ff P i with
    | none =>
      have z := a.mp q
      by_cases c : P i = true <;> simp [c, z]
    | some j =>
      have z : pm_cnt P i ≠ 0 := fun h => by rw [a.mpr h] at q; cases q
      simp
      omega
theorem ff_lt (P : Nat → Bool) : ∀ i j, pm_ff P i = some j → j < i
  | 0, _, h => by cases h
  | i + 1, j, h => by
    unfold pm_ff at h
    cases q : pm_ff P i with
    | none =>
      rw [q] at h
      simp only at h
      split at h
      · injection h with h; omega
      · cases h
    | some c =>
      rw [q] at h
      simp only at h
      have := ff_lt P i c q
      injection h with h; omega
def pm_Rs (n v w i : Nat) : Bool := pm_Rst n v w (i / (n + 1)) (i % (n + 1))
def pm_y6 (n : Nat) (o : Option Nat) : Int32 := match o with
  | none => pm_m1
  | some j => nI (100 * (j / (n + 1)) + j % (n + 1))
def pm_y7 (n v w : Nat) (o : Option Nat) : Int32 := match o with
  | none => nI 0
  | some j => pm_Sh (j / (n + 1)) (j % (n + 1)) v + pm_Sh (j % (n + 1)) (j / (n + 1)) w
def pm_bo (n v w x : Nat) : Int32 := if x = 0 then nI (pm_cnt (pm_Rs n v w) ((n + 1) * (n + 1))) else if x = 1 then pm_y6 n (pm_ff (pm_Rs n v w) ((n + 1) * (n + 1))) else pm_y7 n v w (pm_ff (pm_Rs n v w) ((n + 1) * (n + 1)))
theorem l207i {n v w x a : Nat} (hn : n ≤ 20) (hv : v ≤ 99) (hw : w ≤ 99) (ha : a ≤ n) : ∀ d b fu : Nat, b + d = n + 1 → f207_L (fu + d + 1) 1 (nI n) (nI v) (nI w) (nI x) (nI (pm_cnt (pm_Rs n v w) ((n + 1) * a + b))) (pm_y6 n (pm_ff (pm_Rs n v w) ((n + 1) * a + b))) (pm_y7 n v w (pm_ff (pm_Rs n v w) ((n + 1) * a + b))) (nI a) (nI b) I J = f207_L fu 0 (nI n) (nI v) (nI w) (nI x) (nI (pm_cnt (pm_Rs n v w) ((n + 1) * (a + 1)))) (pm_y6 n (pm_ff (pm_Rs n v w) ((n + 1) * (a + 1)))) (pm_y7 n v w (pm_ff (pm_Rs n v w) ((n + 1) * (a + 1)))) (nI (a + 1)) 0 I J := by
  intro d
  induction d with
  | zero =>
    intro b fu hb
    rw [f207_L, if_pos (by rw [nI_toInt (by omega), nI_toInt (by omega)]; omega), nI_1, show (n + 1) * a + b = (n + 1) * (a + 1) by rw [Nat.mul_succ]; omega]
  | succ d ih =>
    intro b fu hb
    have s := ih (b + 1) fu (by omega)
    have hd : ((n + 1) * a + b) / (n + 1) = a := by rw [Nat.mul_add_div (by omega), Nat.div_eq_of_lt (by omega)]; rfl
    have hmo : ((n + 1) * a + b) % (n + 1) = b := by rw [Nat.mul_add_mod, Nat.mod_eq_of_lt (by omega)]
    have rs : pm_Rs n v w ((n + 1) * a + b) = pm_Rst n v w a b := by unfold pm_Rs; rw [hd, hmo]
    have fc := ff_cnt (pm_Rs n v w) ((n + 1) * a + b)
    have hm2 : (n + 1) * a ≤ 21 * 20 := Nat.mul_le_mul (by omega) (by omega)
    have hcl := cn_le (pm_Rs n v w) ((n + 1) * a + b)
    rw [show (n + 1) * a + (b + 1) = (n + 1) * a + b + 1 by omega, pm_cnt, pm_ff, rs] at s
    rw [show fu + (d + 1) + 1 = (fu + d + 1) + 1 by omega, f207_L, if_neg (by rw [nI_toInt (by omega), nI_toInt (by omega)]; omega), ← s]
    clear s
    show (if (pm_Sh a b v).toInt < (pm_Bs n b v).toInt then _ else if (pm_Sh b a w).toInt < (pm_Bs n a w).toInt then _ else _) = _
    rw [nI_1]
    by_cases q1 : (pm_Sh a b v).toInt < (pm_Bs n b v).toInt
    · have z : pm_Rst n v w a b = false := by unfold pm_Rst; rw [decide_eq_true q1]; rfl
      rw [if_pos q1, z]
      cases e : pm_ff (pm_Rs n v w) ((n + 1) * a + b) <;> rfl
    · rw [if_neg q1]
      by_cases q2 : (pm_Sh b a w).toInt < (pm_Bs n a w).toInt
      · have z : pm_Rst n v w a b = false := by unfold pm_Rst; rw [decide_eq_true q2, Bool.not_true, Bool.and_false]
        rw [if_pos q2, z]
        cases e : pm_ff (pm_Rs n v w) ((n + 1) * a + b) <;> rfl
      · have z : pm_Rst n v w a b = true := by unfold pm_Rst; rw [decide_eq_false q1, decide_eq_false q2]; rfl
        rw [if_neg q2, z]
        cases e : pm_ff (pm_Rs n v w) ((n + 1) * a + b) with
        | none =>
          rw [fc.mp e, if_pos (show nI 0 = 0 from rfl)]
          simp only [if_true]
          have y6e : pm_y6 n (some ((n + 1) * a + b)) = nI (100 * a + b) := by show nI _ = _; rw [hd, hmo]
          have y7e : pm_y7 n v w (some ((n + 1) * a + b)) = pm_Sh a b v + pm_Sh b a w := by show pm_Sh _ _ _ + pm_Sh _ _ _ = _; rw [hd, hmo]
          rw [y6e, y7e, zt_lit 100, pk_mul, nI_add, nI_1]
          rfl
        | some j =>
          have ne : pm_cnt (pm_Rs n v w) ((n + 1) * a + b) ≠ 0 := fun h => by rw [fc.mpr h] at e; cases e
          rw [if_neg (by rw [zt_lit 0, nI_eq (by omega) (by omega)]; exact ne), nI_1]
          rfl
theorem l207 {n v w x : Nat} (hn : n ≤ 20) (hv : v ≤ 99) (hw : w ≤ 99) (hx : x < 3) : ∀ d a fu : Nat, a + d = n + 1 → d * 30 < fu → f207_L fu 0 (nI n) (nI v) (nI w) (nI x) (nI (pm_cnt (pm_Rs n v w) ((n + 1) * a))) (pm_y6 n (pm_ff (pm_Rs n v w) ((n + 1) * a))) (pm_y7 n v w (pm_ff (pm_Rs n v w) ((n + 1) * a))) (nI a) 0 I J = some (.inl (pm_bo n v w x), I, J) := by
  intro d
  induction d with
  | zero =>
    intro a fu ha hf
    obtain ⟨fu, rfl⟩ : ∃ k, fu = k + 1 := ⟨fu - 1, by omega⟩
    have e : a = n + 1 := by omega
    subst e
    rw [f207_L, if_pos (by rw [nI_toInt (by omega), nI_toInt (by omega)]; omega)]
    unfold pm_bo
    have z : x = 0 ∨ x = 1 ∨ x = 2 := by omega
    rcases z with rfl | rfl | rfl
    · rw [if_pos (by decide)]; rfl
    · rw [if_neg (by decide), if_pos (by decide)]; rfl
    · rw [if_neg (by decide), if_neg (by decide)]; rfl
  | succ d ih =>
    intro a fu ha hf
    obtain ⟨fu, rfl⟩ : ∃ k, fu = k + (n + 1) + 1 + 1 := ⟨fu - (n + 1) - 2, by omega⟩
    have s := l207i (I := I) (J := J) (x := x) hn hv hw (show a ≤ n by omega) (n + 1) 0 fu (by omega)
    simp only [Nat.add_zero] at s
    rw [nI_0] at s
    rw [f207_L, if_neg (by rw [nI_toInt (by omega), nI_toInt (by omega)]; omega), s]
    exact ih (a + 1) fu (by omega) (by omega)
theorem l315 {n v w x : Nat} (hn : n ≤ 20) (hv : v ≤ 99) (hw : w ≤ 99) (hx : x < 3) : ∀ d i fu : Nat, i + d = (n + 1) * (n + 1) → d < fu → f315_70 fu (nI n) (nI v) (nI w) (nI x) (nI (pm_cnt (pm_Rs n v w) i)) (pm_y6 n (pm_ff (pm_Rs n v w) i)) (nI i) I J = some (pm_bo n v w x, I, J) := by
  have hN : (n + 1) * (n + 1) ≤ 21 * 21 := Nat.mul_le_mul (by omega) (by omega)
  intro d
  induction d with
  | zero =>
    intro i fu hi hf
    obtain ⟨fu, rfl⟩ : ∃ k, fu = k + 1 := ⟨fu - 1, by omega⟩
    have e : i = (n + 1) * (n + 1) := by omega
    subst e
    rw [f315_70, nI_1, pk_mul, if_neg (by omega)]
    unfold pm_bo
    have z : x = 0 ∨ x = 1 ∨ x = 2 := by omega
    rcases z with rfl | rfl | rfl
    · rw [if_pos (by decide)]; rfl
    · rw [if_neg (by decide), if_pos (by decide)]; rfl
    · rw [if_neg (by decide), if_neg (by decide)]
      cases q : pm_ff (pm_Rs n v w) ((n + 1) * (n + 1)) with
      | none => rw [if_pos (show pm_y6 n none = -1 from rfl)]; rfl
      | some j =>
        have hj := ff_lt _ _ _ q
        have hj2 : j / (n + 1) < n + 1 := Nat.div_lt_of_lt_mul hj
        have hj3 : j % (n + 1) < n + 1 := Nat.mod_lt _ (by omega)
        have ne : ¬ pm_y6 n (some j) = (-1 : Int32) := by
          show ¬ nI _ = _
          rw [zt_m1', zt_eqm (by omega)]; exact id
        rw [if_neg ne]
        show some (v317 (nI _ / 100) (nI _ - nI _ / 100 * 100) (nI v) I + v317 (nI _ - nI _ / 100 * 100) (nI _ / 100) (nI w) I, I, J) = _
        rw [zt_lit 100, pk_rem (by omega) (by omega) (by omega), pk_div (by omega) (by omega) (by omega), S_317, S_317, show (100 * (j / (n + 1)) + j % (n + 1)) / 100 = j / (n + 1) by omega, show (100 * (j / (n + 1)) + j % (n + 1)) % 100 = j % (n + 1) by omega]
        rfl
  | succ d ih =>
    intro i fu hi hf
    obtain ⟨fu, rfl⟩ : ∃ k, fu = k + 1 := ⟨fu - 1, by omega⟩
    have s := ih (i + 1) fu (by omega) (by omega)
    have hj2 : i / (n + 1) < n + 1 := Nat.div_lt_of_lt_mul (by omega)
    have hj3 : i % (n + 1) < n + 1 := Nat.mod_lt _ (by omega)
    have e1 := e316 (I := I) (J := J) hn hv hw (show i / (n + 1) ≤ n by omega) (show i % (n + 1) ≤ n by omega)
    rw [pm_cnt, pm_ff] at s
    have ne0 : ¬ n + 1 = 0 := by omega
    have n1 : nI n + 1 = nI (n + 1) := nI_1 n
    have rm : nI i - nI i / nI (n + 1) * nI (n + 1) = nI (i % (n + 1)) := pk_rem (by omega) (by omega) (by omega)
    have dv : nI i / nI (n + 1) = nI (i / (n + 1)) := pk_div (by omega) (by omega) (by omega)
    rw [f315_70, n1, rm, dv, e1, zt_bind]
    simp (disch := omega) only [zt_lit, zt_m1, nI_add, pk_mul, zt_lt, if_pos, zt_eq, ne0, decide_false, Bool.not_false, zt_gd]
    show (if pm_Rs n v w i = true then _ else _) = _
    by_cases c : pm_Rs n v w i = true
    · rw [if_pos c]
      cases q : pm_ff (pm_Rs n v w) i with
      | none =>
        rw [q] at s
        simp only [c, if_true] at s
        rw [if_pos (show pm_y6 n none = pm_m1 from rfl)]
        exact s
      | some j =>
        rw [q] at s
        simp only [c, if_true] at s
        have hj := ff_lt _ _ _ q
        have hj4 : j / (n + 1) < n + 1 := Nat.div_lt_of_lt_mul (by omega)
        have hj5 : j % (n + 1) < n + 1 := Nat.mod_lt _ (by omega)
        have ne : ¬ pm_y6 n (some j) = pm_m1 := by
          show ¬ nI _ = _
          rw [zt_eqm (by omega)]; exact id
        rw [if_neg ne]
        exact s
    · rw [if_neg c]
      simp only [c, if_false, Nat.add_zero] at s
      cases q : pm_ff (pm_Rs n v w) i with
      | none => rw [q] at s; exact s
      | some j => rw [q] at s; exact s
theorem K33 {x y z u : Int32} (hRR : pm_RR r k I) : pm_KK r k (fun v b : Int32 => v = b) 1 1 (fun I J => f207 x y z u I J) (fun I J => f315 x y z u I J) I J := by
  obtain ⟨n, t, D, l0, k0, l1, k1, h⟩ := hRR
  obtain ⟨Ib, n2, n3, n4⟩ := il_e h
  have e20 : ((20 : Int32)).toInt = 20 := by decide
  have e99 : ((99 : Int32)).toInt = 99 := by decide
  have e2 : ((2 : Int32)).toInt = 2 := by decide
  have n2' : ∀ J', f222 0 1 1 (pm_w (pm_w I 0 13 (I 0 13 + nI 1)) 127 0 0) J' = some (false, Ib, J') := n2
  rcases tr2 x 0 20 (by omega) with ⟨a, _, ha, rfl⟩ | hx
  rotate_left
  · have vb' : v241 x 0 20 (pm_w (pm_w I 0 13 (I 0 13 + nI 1)) 127 0 0) = false := v241b (x := x) (a := 0) (b := 20) (by omega) (by omega) (by omega)
    refine KK_2 (b := 0) (Ia := pm_w I 0 13 (I 0 13 + nI 1)) (Ib := Ib) ?_ (fun J' => ?_) n3 n4
    · unfold f207
      rw [nd_b (x := x) (by rw [e20]; omega)]
    · unfold f315
      rw [pm_lt_eq]
      simp only [vb', Bool.false_eq_true, if_false, n2', zt_bind]
  have u1 : ¬ (nI a).toInt < 0 := by rw [nI_toInt (by omega)]; omega
  have u2 : ¬ ((20 : Int32)).toInt < (nI a).toInt := by rw [nI_toInt (by omega), e20]; omega
  have ga : ∀ I, v241 (nI a) 0 20 I = true := fun I => v241g (p := a) (a := 0) (b := 20) (I := I) (by omega) (by omega) (by omega)
  rcases tr2 y 0 99 (by omega) with ⟨v, _, hv, rfl⟩ | hx
  rotate_left
  · have vb' : v241 y 0 99 (pm_w (pm_w I 0 13 (I 0 13 + nI 1)) 127 0 0) = false := v241b (x := y) (a := 0) (b := 99) (by omega) (by omega) (by omega)
    refine KK_2 (b := 0) (Ia := pm_w I 0 13 (I 0 13 + nI 1)) (Ib := Ib) ?_ (fun J' => ?_) n3 n4
    · unfold f207
      rw [nd_g u1 u2, nd_b (x := y) (by rw [e99]; omega)]
    · unfold f315
      rw [pm_lt_eq]
      simp only [ga, vb', Bool.false_eq_true, if_true, if_false, n2', zt_bind]
  have w1 : ¬ (nI v).toInt < 0 := by rw [nI_toInt (by omega)]; omega
  have w2 : ¬ ((99 : Int32)).toInt < (nI v).toInt := by rw [nI_toInt (by omega), e99]; omega
  have gv : ∀ I, v241 (nI v) 0 99 I = true := fun I => v241g (p := v) (a := 0) (b := 99) (I := I) (by omega) (by omega) (by omega)
  rcases tr2 z 0 99 (by omega) with ⟨w, _, hw, rfl⟩ | hx
  rotate_left
  · have vb' : v241 z 0 99 (pm_w (pm_w I 0 13 (I 0 13 + nI 1)) 127 0 0) = false := v241b (x := z) (a := 0) (b := 99) (by omega) (by omega) (by omega)
    refine KK_2 (b := 0) (Ia := pm_w I 0 13 (I 0 13 + nI 1)) (Ib := Ib) ?_ (fun J' => ?_) n3 n4
    · unfold f207
      rw [nd_g u1 u2, nd_g w1 w2, nd_b (x := z) (by rw [e99]; omega)]
    · unfold f315
      rw [pm_lt_eq]
      simp only [ga, gv, vb', Bool.false_eq_true, if_true, if_false, n2', zt_bind]
  have z1 : ¬ (nI w).toInt < 0 := by rw [nI_toInt (by omega)]; omega
  have z2 : ¬ ((99 : Int32)).toInt < (nI w).toInt := by rw [nI_toInt (by omega), e99]; omega
  have gw : ∀ I, v241 (nI w) 0 99 I = true := fun I => v241g (p := w) (a := 0) (b := 99) (I := I) (by omega) (by omega) (by omega)
  rcases tr2 u 0 2 (by omega) with ⟨q, _, hq, rfl⟩ | hx
  rotate_left
  · have vb' : v241 u 0 2 (pm_w (pm_w I 0 13 (I 0 13 + nI 1)) 127 0 0) = false := v241b (x := u) (a := 0) (b := 2) (by omega) (by omega) (by omega)
    refine KK_2 (b := 0) (Ia := pm_w I 0 13 (I 0 13 + nI 1)) (Ib := Ib) ?_ (fun J' => ?_) n3 n4
    · unfold f207
      rw [nd_g u1 u2, nd_g w1 w2, nd_g z1 z2, nd_b (x := u) (by rw [e2]; omega)]
    · unfold f315
      rw [pm_lt_eq]
      simp only [ga, gv, gw, vb', Bool.false_eq_true, if_true, if_false, n2', zt_bind]
  have gq : ∀ I, v241 (nI q) 0 2 I = true := fun I => v241g (p := q) (a := 0) (b := 2) (I := I) (by omega) (by omega) (by omega)
  have R1 := R0_t0 (x := 0) h
  have s1 := l207 (I := I) (J := J) (x := q) ha hv hw (by omega) (a + 1) 0 pm_FU (by omega) (by unfold pm_FU; omega)
  rw [Nat.mul_zero, pm_cnt, pm_ff, nI_0] at s1
  refine KK_v (v := pm_bo a v w q) (I1 := I) (J1 := J) ?_ aj_refl (fun J' => ⟨pm_w I 127 0 0, ?_, by rw [zt_ws]; rfl, R0_R R1⟩)
  · unfold f207
    rw [nd_g u1 u2, nd_g w1 w2, nd_g z1 z2, nd_g (x := nI q) (by rw [nI_toInt (by omega)]; omega) (by rw [nI_toInt (by omega), e2]; omega)]
    exact s1
  · have s2 := l315 (I := pm_w I 127 0 0) (J := J') (x := q) ha hv hw (by omega) ((a + 1) * (a + 1)) 0 pm_FU (by omega) (by have : (a + 1) * (a + 1) ≤ 21 * 21 := Nat.mul_le_mul (by omega) (by omega); unfold pm_FU; omega)
    rw [pm_cnt, pm_ff, nI_0] at s2
    have hg : f222 1 1 1 (pm_w I 127 0 0) J' = some (true, pm_w I 127 0 0, J') := e222g (I := pm_w I 127 0 0) (J := J') (c := 1) (k := 1) (by rw [zt_ws]; rfl)
    unfold f315
    rw [pm_lt_eq, ga, gv, gw, gq, if_pos rfl, if_pos rfl, if_pos rfl, if_pos rfl, hg, zt_bind]
    show (if true = true then _ else _) = _
    rw [if_pos rfl]
    exact s2
end Bi
